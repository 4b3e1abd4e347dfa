/-! the reference's structure, seen as the class's layOut: its arrays in the places of the class's, what is open as a number -/
def rv (f : Nat → Int → Int) (o : Int) : Nat → Int → Int := fun p i => match p with
  | 1 => if i = (13 : Nat) then o else if i = (11 : Nat) then f 46 (6 : Nat) else f 46 (0 : Nat)
  | 2 => f 47 i
  | 6 => f 54 i
  | 7 => f 55 i
  | 8 => f 56 i
  | 9 => f 53 i
  | 10 => f 51 i
  | 11 => f 52 i
  | 12 => f 58 i
  | _ => 0
theorem rv_13 (f : Nat → Int → Int) (o : Int) : rv f o 1 (13 : Nat) = o := rfl
theorem rv_11 (f : Nat → Int → Int) (o : Int) : rv f o 1 (11 : Nat) = f 46 (6 : Nat) := rfl
theorem LI_congr {f g : Nat → Int → Int} {i : Int} (e11 : g 1 (11 : Nat) = f 1 (11 : Nat)) (e13 : g 1 (13 : Nat) = f 1 (13 : Nat)) (e2 : g 2 = f 2) (e6 : g 6 = f 6) (e7 : g 7 = f 7) (e8 : g 8 = f 8) (e10 : g 10 = f 10) (e11' : g 11 = f 11) (e12 : g 12 = f 12) (h : LI f i) : LI g i := by
  unfold LI cFi cAt cPl onS at *
  rw [e11, e13, e2, e6, e7, e8, e10, e11', e12]
  exact h
/-- also: which head an ELSE or END has, and which procedure an instruction is in -/
def rH (f : Nat → Int → Int) (i : Int) : Prop := ∀ j, 0 ≤ j → j < i → (f 47 j = 10 ∨ f 47 j = 12) → f 57 j = f 54 j
def rP (f : Nat → Int → Int) (i : Int) : Prop := (∀ p j, 0 ≤ p → p < f 46 (6 : Nat) - 1 → f 51 p ≤ j → j < f 52 p → f 53 j = p) ∧ ∀ j, f 51 (f 46 (6 : Nat) - 1) ≤ j → j < i → f 53 j = f 46 (6 : Nat) - 1
def rLI (f : Nat → Int → Int) (o i : Int) : Prop := LI (rv f o) i ∧ rH f i ∧ rP f i

theorem rLI_first {f : Nat → Int → Int} {o i : Int} (h : rLI f o i) : 0 ≤ f 51 (f 46 (6 : Nat) - 1) ∧ f 51 (f 46 (6 : Nat) - 1) ≤ i := LI_first h.1
theorem rLI_pre {m : wk_M} {o i b : Int} (h : rLI m.1 o i) : rLI (wk_u (wk_u (wk_u (wk_u m 54 i b) 53 i (m.1 46 (6 : Nat) - 1)) 55 i (-1)) 56 i (-1)).1 o i := by
  have hF := rLI_first h
  obtain ⟨h1, h2, h3, h4⟩ := h
  refine ⟨LI_congr (f := (wk_u (wk_u (wk_u (wk_u (rv m.1 o, m.2) 9 i (m.1 46 (6 : Nat) - 1)) 6 i b) 7 i (-1)) 8 i (-1)).1) rfl rfl rfl (funext fun j => ?_) (funext fun j => ?_) (funext fun j => ?_) rfl rfl rfl (LI_pre (m := (rv m.1 o, m.2)) h1), ?_, ?_, ?_⟩
  · show (wk_u (wk_u (wk_u (wk_u m 54 i b) 53 i _) 55 i (-1)) 56 i (-1)).1 54 j = _
    simp (decide := true) only [wk_u_at, wk_ul_1, and_self, and_true, true_and, and_false, false_and, if_true, if_false]
    rfl
  · show (wk_u (wk_u (wk_u (wk_u m 54 i b) 53 i _) 55 i (-1)) 56 i (-1)).1 55 j = _
    simp (decide := true) only [wk_u_at, wk_ul_1, and_self, and_true, true_and, and_false, false_and, if_true, if_false]
    rfl
  · show (wk_u (wk_u (wk_u (wk_u m 54 i b) 53 i _) 55 i (-1)) 56 i (-1)).1 56 j = _
    simp (decide := true) only [wk_u_at, wk_ul_1, and_self, and_true, true_and, and_false, false_and, if_true, if_false]
    rfl
  · intro j j0 j1 z
    simp (decide := true) only [wk_u_at, wk_ul_1, and_self, and_true, true_and, and_false, false_and, if_true, if_false]
    rw [if_neg (by omega)]
    exact h2 j j0 j1 z
  · intro p j p0 p1 j0 j1
    have p1 : p < m.1 46 (6 : Nat) - 1 := p1
    have j0 : m.1 51 p ≤ j := j0
    have j1 : j < m.1 52 p := j1
    have hx : m.1 52 p < m.1 51 (m.1 46 (6 : Nat) - 1) := (h1.2.2.1 p p0 p1).2
    simp (decide := true) only [wk_u_at, wk_ul_1, and_self, and_true, true_and, and_false, false_and, if_true, if_false]
    rw [if_neg (by omega)]
    exact h3 p j p0 p1 j0 j1
  · intro j j0 j1
    have j0 : m.1 51 (m.1 46 (6 : Nat) - 1) ≤ j := j0
    simp (decide := true) only [wk_u_at, wk_ul_1, and_self, and_true, true_and, and_false, false_and, if_true, if_false]
    rw [if_neg (by omega)]
    exact h4 j j0 j1
theorem rP_next {f : Nat → Int → Int} {i : Int} (h : rP f i) (e : f 53 i = f 46 (6 : Nat) - 1) : rP f (i + 1) := ⟨h.1, fun j j0 j1 => by
  by_cases q : j = i
  · rw [q]; exact e
  · exact h.2 j j0 (by omega)⟩
theorem rP_same {f g : Nat → Int → Int} {i : Int} (e1 : g 46 (6 : Nat) = f 46 (6 : Nat)) (e51 : g 51 = f 51) (e52 : g 52 = f 52) (e53 : g 53 = f 53) (h : rP f i) : rP g i := by
  unfold rP
  rw [e1, e51, e52, e53]
  exact h
theorem rH_next {f : Nat → Int → Int} {i : Int} (h : rH f i) (e : (f 47 i = 10 ∨ f 47 i = 12) → f 57 i = f 54 i) : rH f (i + 1) := fun j j0 j1 z => by
  by_cases q : j = i
  · rw [q] at z ⊢; exact e z
  · exact h j j0 (by omega) z
theorem rLI_plain {f : Nat → Int → Int} {o i : Int} (h : rLI f o i) (e : f 53 i = f 46 (6 : Nat) - 1) (q : ¬ f 47 i = 9 ∧ ¬ f 47 i = 10 ∧ ¬ f 47 i = 11 ∧ ¬ f 47 i = 12 ∧ ¬ f 47 i = 18) : rLI f o (i + 1) := ⟨LI_plain h.1 q, rH_next h.2.1 (fun z => by omega), rP_next h.2.2 e⟩
theorem rLI_open {m : wk_M} {o i : Int} (h : rLI m.1 o i) (e : m.1 53 i = m.1 46 (6 : Nat) - 1) (q : m.1 47 i = 9 ∨ m.1 47 i = 11) (e7 : m.1 55 i = -1) (d : o < 4) : rLI (wk_u m 58 o i).1 (o + 1) (i + 1) := by
  have z : LI (wk_u (wk_u (rv m.1 o, m.2) 12 o i) 1 (13 : Nat) (o + 1)).1 (i + 1) := LI_open (m := (rv m.1 o, m.2)) h.1 q e7 d
  refine ⟨LI_congr (f := (wk_u (wk_u (rv m.1 o, m.2) 12 o i) 1 (13 : Nat) (o + 1)).1) rfl (by rw [rv_13]; simp (decide := true) only [wk_u_at, wk_ul_1, and_self, and_true, true_and, and_false, false_and, if_true, if_false]) rfl rfl rfl rfl rfl rfl (funext fun j => ?_) z, ?_, ?_⟩
  · show (wk_u m 58 o i).1 58 j = (wk_u (wk_u (rv m.1 o, m.2) 12 o i) 1 (13 : Nat) (o + 1)).1 12 j
    simp (decide := true) only [wk_u_at, wk_ul_1, and_self, and_true, true_and, and_false, false_and, if_true, if_false]
    rfl
  · exact rH_next (f := (wk_u m 58 o i).1) h.2.1 (fun z => by have z : m.1 47 i = 10 ∨ m.1 47 i = 12 := z; omega)
  · exact rP_next (f := (wk_u m 58 o i).1) h.2.2 e
theorem rLI_else {m : wk_M} {o i : Int} (h : rLI m.1 o i) (e : m.1 53 i = m.1 46 (6 : Nat) - 1) (q : m.1 47 i = 10) (d : 0 < o) (e6 : m.1 54 i = m.1 58 (o - 1)) : rLI (wk_u (wk_u m 55 (m.1 54 i) i) 57 i (m.1 54 i)).1 o (i + 1) := by
  have z : LI (wk_u (rv m.1 o, m.2) 7 (m.1 54 i) i).1 (i + 1) := LI_else (m := (rv m.1 o, m.2)) h.1 q d e6
  refine ⟨LI_congr (f := (wk_u (rv m.1 o, m.2) 7 (m.1 54 i) i).1) rfl rfl rfl rfl (funext fun j => ?_) rfl rfl rfl rfl z, ?_, ?_⟩
  · show (wk_u (wk_u m 55 (m.1 54 i) i) 57 i (m.1 54 i)).1 55 j = (wk_u (rv m.1 o, m.2) 7 (m.1 54 i) i).1 7 j
    simp (decide := true) only [wk_u_at, wk_ul_1, and_self, and_true, true_and, and_false, false_and, if_true, if_false]
    rfl
  · intro j j0 j1 z
    show (wk_u (wk_u m 55 (m.1 54 i) i) 57 i (m.1 54 i)).1 57 j = m.1 54 j
    simp (decide := true) only [wk_u_at, wk_ul_1, and_self, and_true, true_and, and_false, false_and, if_true, if_false]
    by_cases ej : j = i
    · rw [if_pos ej, ej]
    · rw [if_neg ej]; exact h.2.1 j j0 (by omega) z
  · exact rP_next (f := (wk_u (wk_u m 55 (m.1 54 i) i) 57 i (m.1 54 i)).1) h.2.2 e
theorem rLI_end {m : wk_M} {o i : Int} (h : rLI m.1 o i) (e : m.1 53 i = m.1 46 (6 : Nat) - 1) (q : m.1 47 i = 12) (d : 0 < o) (e6 : m.1 54 i = m.1 58 (o - 1)) : rLI (wk_u (wk_u m 56 (m.1 54 i) i) 57 i (m.1 54 i)).1 (o - 1) (i + 1) := by
  have z : LI (wk_u (wk_u (rv m.1 o, m.2) 8 (m.1 54 i) i) 1 (13 : Nat) (o - 1)).1 (i + 1) := LI_end (m := (rv m.1 o, m.2)) h.1 q d e6
  refine ⟨LI_congr (f := (wk_u (wk_u (rv m.1 o, m.2) 8 (m.1 54 i) i) 1 (13 : Nat) (o - 1)).1) rfl (by rw [rv_13]; simp (decide := true) only [wk_u_at, wk_ul_1, and_self, and_true, true_and, and_false, false_and, if_true, if_false]) rfl rfl rfl (funext fun j => ?_) rfl rfl rfl z, ?_, ?_⟩
  · show (wk_u (wk_u m 56 (m.1 54 i) i) 57 i (m.1 54 i)).1 56 j = (wk_u (wk_u (rv m.1 o, m.2) 8 (m.1 54 i) i) 1 (13 : Nat) (o - 1)).1 8 j
    simp (decide := true) only [wk_u_at, wk_ul_1, and_self, and_true, true_and, and_false, false_and, if_true, if_false]
    rfl
  · intro j j0 j1 z
    show (wk_u (wk_u m 56 (m.1 54 i) i) 57 i (m.1 54 i)).1 57 j = m.1 54 j
    simp (decide := true) only [wk_u_at, wk_ul_1, and_self, and_true, true_and, and_false, false_and, if_true, if_false]
    by_cases ej : j = i
    · rw [if_pos ej, ej]
    · rw [if_neg ej]; exact h.2.1 j j0 (by omega) z
  · exact rP_next (f := (wk_u (wk_u m 56 (m.1 54 i) i) 57 i (m.1 54 i)).1) h.2.2 e
theorem rLI_proc {m : wk_M} {o i : Int} (h : rLI m.1 o i) (q : m.1 47 i = 18) (d : o = 0) (e4 : m.1 46 (6 : Nat) < 4) : rLI (wk_u (wk_u (wk_u m 52 (m.1 46 (6 : Nat) - 1) i) 51 (m.1 46 (6 : Nat)) (i + 1)) 46 (6 : Nat) (m.1 46 (6 : Nat) + 1)).1 o (i + 1) := by
  have hF := rLI_first h
  have h3 := h.1.2.1
  have h4 := h.1.2.2.1
  have hp := h.1.1.1
  have hp : 1 ≤ m.1 46 (6 : Nat) ∧ m.1 46 (6 : Nat) ≤ 4 := hp
  generalize hg : (wk_u (wk_u (wk_u m 52 (m.1 46 (6 : Nat) - 1) i) 51 (m.1 46 (6 : Nat)) (i + 1)) 46 (6 : Nat) (m.1 46 (6 : Nat) + 1)).1 = g
  have g6 : g 46 (6 : Nat) = m.1 46 (6 : Nat) + 1 := by rw [← hg]; simp (decide := true) only [wk_u_at, wk_ul_1, and_self, and_true, true_and, and_false, false_and, if_true, if_false]
  have g51 : ∀ p, g 51 p = if p = m.1 46 (6 : Nat) then i + 1 else m.1 51 p := by intro p; rw [← hg]; simp (decide := true) only [wk_u_at, wk_ul_1, and_self, and_true, true_and, and_false, false_and, if_true, if_false]
  have g52 : ∀ p, g 52 p = if p = m.1 46 (6 : Nat) - 1 then i else m.1 52 p := by intro p; rw [← hg]; simp (decide := true) only [wk_u_at, wk_ul_1, and_self, and_true, true_and, and_false, false_and, if_true, if_false]
  have g53 : g 53 = m.1 53 := by rw [← hg]; rfl
  refine ⟨?_, ?_, ?_⟩
  · have z := LI_proc (m := (rv m.1 o, m.2)) h.1 d e4
    have z : LI (wk_u (wk_u (wk_u (rv m.1 o, m.2) 11 (m.1 46 (6 : Nat) - 1) i) 10 (m.1 46 (6 : Nat)) (i + 1)) 1 (11 : Nat) (m.1 46 (6 : Nat) + 1)).1 (i + 1) := z
    rw [← hg]
    refine LI_congr (f := (wk_u (wk_u (wk_u (rv m.1 o, m.2) 11 (m.1 46 (6 : Nat) - 1) i) 10 (m.1 46 (6 : Nat)) (i + 1)) 1 (11 : Nat) (m.1 46 (6 : Nat) + 1)).1) ?_ rfl rfl rfl rfl rfl (funext fun j => ?_) (funext fun j => ?_) rfl z
    · rw [hg]
      show g 46 (6 : Nat) = _
      rw [g6]
      simp (decide := true) only [wk_u_at, wk_ul_1, and_self, and_true, true_and, and_false, false_and, if_true, if_false]
    · show (wk_u (wk_u (wk_u m 52 (m.1 46 (6 : Nat) - 1) i) 51 (m.1 46 (6 : Nat)) (i + 1)) 46 (6 : Nat) (m.1 46 (6 : Nat) + 1)).1 51 j = _
      simp (decide := true) only [wk_u_at, wk_ul_1, and_self, and_true, true_and, and_false, false_and, if_true, if_false]
      rfl
    · show (wk_u (wk_u (wk_u m 52 (m.1 46 (6 : Nat) - 1) i) 51 (m.1 46 (6 : Nat)) (i + 1)) 46 (6 : Nat) (m.1 46 (6 : Nat) + 1)).1 52 j = _
      simp (decide := true) only [wk_u_at, wk_ul_1, and_self, and_true, true_and, and_false, false_and, if_true, if_false]
      rfl
  · intro j j0 j1 z
    have z : m.1 47 j = 10 ∨ m.1 47 j = 12 := by rw [← hg] at z; exact z
    have : g 57 j = m.1 57 j := by rw [← hg]; rfl
    have h54 : g 54 j = m.1 54 j := by rw [← hg]; rfl
    rw [this, h54]
    by_cases ej : j = i
    · subst ej; omega
    · exact h.2.1 j j0 (by omega) z
  · refine ⟨fun p j p0 p1 j0 j1 => ?_, fun j j0 j1 => ?_⟩
    · rw [g6] at p1
      rw [g51, if_neg (by omega)] at j0
      rw [g52] at j1
      rw [g53]
      by_cases ep : p = m.1 46 (6 : Nat) - 1
      · rw [if_pos ep] at j1
        rw [ep] at j0 ⊢
        exact h.2.2.2 j j0 j1
      · rw [if_neg ep] at j1
        exact h.2.2.1 p j p0 (by omega) j0 j1
    · rw [g6, g51, if_pos (by omega)] at j0
      omega
