/-! layOut: what stands when the instructions ahead of i are placed -/
def onS (f : Nat → Int → Int) (x : Int) : Prop := ∃ k, 0 ≤ k ∧ k < f 1 (13 : Nat) ∧ f 12 k = x
def cPl (f : Nat → Int → Int) (lo i j : Int) : Prop := ¬ f 2 j = 18 ∧ (f 2 j = 10 → (lo ≤ f 6 j ∧ f 6 j < i) ∧ (onS f (f 6 j) ∨ (lo ≤ f 8 (f 6 j) ∧ f 8 (f 6 j) < i))) ∧ (f 2 j = 12 → lo ≤ f 6 j ∧ f 6 j < i) ∧ (f 2 j = 9 → (onS f j ∨ (lo ≤ f 8 j ∧ f 8 j < i)) ∧ (¬ f 7 j = -1 → lo ≤ f 7 j ∧ f 7 j < i)) ∧ (f 2 j = 11 → onS f j ∨ (lo ≤ f 8 j ∧ f 8 j < i))
def cFi (f : Nat → Int → Int) : Int := f 10 (f 1 (11 : Nat) - 1)
def LI (f : Nat → Int → Int) (i : Int) : Prop := ((1 ≤ f 1 (11 : Nat) ∧ f 1 (11 : Nat) ≤ 4) ∧ 0 ≤ i) ∧ (∀ p, 0 ≤ p → p < f 1 (11 : Nat) → 0 ≤ f 10 p ∧ f 10 p ≤ i) ∧ (∀ p, 0 ≤ p → p < f 1 (11 : Nat) - 1 → f 10 p ≤ f 11 p ∧ f 11 p < cFi f) ∧ (∀ p j, 0 ≤ p → p < f 1 (11 : Nat) - 1 → f 10 p ≤ j → j < f 11 p → cAt f (f 10 p) (f 11 p) j) ∧ ((0 ≤ f 1 (13 : Nat) ∧ f 1 (13 : Nat) ≤ 4) ∧ ∀ k, 0 ≤ k → k < f 1 (13 : Nat) → cFi f ≤ f 12 k ∧ f 12 k < i) ∧ (∀ j, cFi f ≤ j → j < i → cPl f (cFi f) i j)
theorem cAt_agr {f g : Nat → Int → Int} {B lo hi j : Int} (a2 : ∀ x, x < B → g 2 x = f 2 x) (a6 : ∀ x, x < B → g 6 x = f 6 x) (a7 : ∀ x, x < B → g 7 x = f 7 x) (a8 : ∀ x, x < B → g 8 x = f 8 x) (hj : j < hi) (hB : hi ≤ B) (h : cAt f lo hi j) : cAt g lo hi j := by
  unfold cAt at *
  have b := a6 j (by omega)
  rw [a2 j (by omega), a7 j (by omega), a8 j (by omega), b]
  obtain ⟨h1, h2, h3, h4, h5⟩ := h
  refine ⟨h1, fun z => ?_, h3, h4, h5⟩
  have q := h2 z
  rw [a8 _ (by omega)]
  exact q
/-- the parts of LI that only closed procedures touch -/
theorem LI_step {f g : Nat → Int → Int} {i i' : Int} (h : LI f i) (hi : i ≤ i') (e1 : g 1 (11 : Nat) = f 1 (11 : Nat)) (e10 : g 10 = f 10) (e11 : g 11 = f 11) (a2 : ∀ x, x < cFi f → g 2 x = f 2 x) (a6 : ∀ x, x < cFi f → g 6 x = f 6 x) (a7 : ∀ x, x < cFi f → g 7 x = f 7 x) (a8 : ∀ x, x < cFi f → g 8 x = f 8 x) (hS : (0 ≤ g 1 (13 : Nat) ∧ g 1 (13 : Nat) ≤ 4) ∧ ∀ k, 0 ≤ k → k < g 1 (13 : Nat) → cFi f ≤ g 12 k ∧ g 12 k < i') (hP : ∀ j, cFi f ≤ j → j < i' → cPl g (cFi f) i' j) : LI g i' := by
  have eF : cFi g = cFi f := by unfold cFi; rw [e1, e10]
  obtain ⟨⟨h1, h2⟩, h3, h4, h5, h6, h7⟩ := h
  refine ⟨⟨by rw [e1]; exact h1, by omega⟩, ?_, ?_, ?_, ?_, ?_⟩
  · rw [e1, e10]
    exact fun p p0 p1 => ⟨(h3 p p0 p1).1, Int.le_trans (h3 p p0 p1).2 hi⟩
  · rw [eF, e1, e10, e11]
    exact h4
  · rw [e1, e10, e11]
    intro p j p0 p1 j0 j1
    exact cAt_agr a2 a6 a7 a8 j1 (Int.le_of_lt (h4 p p0 p1).2) (h5 p j p0 p1 j0 j1)
  · rw [eF]
    exact hS
  · rw [eF]
    exact hP
theorem cPl_mono {f g : Nat → Int → Int} {lo i i' j : Int} (hi : i ≤ i') (e2 : g 2 j = f 2 j) (e6 : g 6 j = f 6 j) (a7 : g 7 j = f 7 j ∨ (lo ≤ g 7 j ∧ g 7 j < i')) (a8 : ∀ x, x < i → (onS f x ∨ (lo ≤ f 8 x ∧ f 8 x < i)) → onS g x ∨ (lo ≤ g 8 x ∧ g 8 x < i')) (hj : j < i) (h : cPl f lo i j) : cPl g lo i' j := by
  unfold cPl at *
  rw [e2, e6]
  obtain ⟨h1, h2, h3, h4, h5⟩ := h
  refine ⟨h1, fun z => ⟨⟨(h2 z).1.1, by have := (h2 z).1.2; omega⟩, a8 _ (h2 z).1.2 (h2 z).2⟩, fun z => ⟨(h3 z).1, by have := (h3 z).2; omega⟩, fun z => ⟨a8 j hj (h4 z).1, fun y => ?_⟩, fun z => a8 j hj (h5 z)⟩
  rcases a7 with a7 | a7
  · rw [a7] at y ⊢
    have := (h4 z).2 y
    omega
  · exact a7
/-- the first stores of place -/
theorem LI_pre {m : wk_M} {i a b : Int} (h : LI m.1 i) : LI (wk_u (wk_u (wk_u (wk_u m 9 i a) 6 i b) 7 i (-1)) 8 i (-1)).1 i := by
  have hF : cFi m.1 ≤ i := (h.2.1 _ (by have := h.1.1; omega) (by omega)).2
  have h6 := h.2.2.2.2.1
  have h7 := h.2.2.2.2.2
  refine LI_step h (Int.le_refl _) rfl rfl rfl (fun x hx => rfl) ?_ ?_ ?_ h6 ?_
  · intro x hx
    exact if_neg (by omega)
  · intro x hx
    exact if_neg (by omega)
  · intro x hx
    exact if_neg (by omega)
  · intro j j0 j1
    refine cPl_mono (f := m.1) (Int.le_refl _) rfl (if_neg (by omega)) (Or.inl (if_neg (by omega))) (fun x hx hh => ?_) j1 (h7 j j0 j1)
    rcases hh with hh | hh
    · exact Or.inl hh
    · refine Or.inr ?_
      have e : (wk_u (wk_u (wk_u (wk_u m 9 i a) 6 i b) 7 i (-1)) 8 i (-1)).1 8 x = m.1 8 x := if_neg (by omega)
      rw [e]
      exact hh

theorem onS_same {f g : Nat → Int → Int} (e1 : g 1 (13 : Nat) = f 1 (13 : Nat)) (e12 : g 12 = f 12) {x : Int} (h : onS f x) : onS g x := by
  unfold onS at *
  rw [e1, e12]
  exact h
theorem LI_first {f : Nat → Int → Int} {i : Int} (h : LI f i) : 0 ≤ cFi f ∧ cFi f ≤ i := h.2.1 _ (by have := h.1.1; omega) (by omega)
/-- an instruction that opens and closes nothing -/
theorem LI_plain {f : Nat → Int → Int} {i : Int} (h : LI f i) (o : ¬ f 2 i = 9 ∧ ¬ f 2 i = 10 ∧ ¬ f 2 i = 11 ∧ ¬ f 2 i = 12 ∧ ¬ f 2 i = 18) : LI f (i + 1) := by
  have hF := LI_first h
  have h6 := h.2.2.2.2.1
  have h7 := h.2.2.2.2.2
  refine LI_step h (by omega) rfl rfl rfl (fun _ _ => rfl) (fun _ _ => rfl) (fun _ _ => rfl) (fun _ _ => rfl) ⟨h6.1, fun k k0 k1 => ⟨(h6.2 k k0 k1).1, by have := (h6.2 k k0 k1).2; omega⟩⟩ (fun j j0 j1 => ?_)
  by_cases e : j = i
  · subst e
    exact ⟨o.2.2.2.2, fun z => absurd z o.2.1, fun z => absurd z o.2.2.2.1, fun z => absurd z o.1, fun z => absurd z o.2.2.1⟩
  · exact cPl_mono (f := f) (by omega) rfl rfl (Or.inl rfl) (fun x hx hh => hh.imp id (fun z => ⟨z.1, by omega⟩)) (by omega) (h7 j j0 (by omega))
theorem LI_open {m : wk_M} {i : Int} (h : LI m.1 i) (o : m.1 2 i = 9 ∨ m.1 2 i = 11) (e7 : m.1 7 i = -1) (d : m.1 1 (13 : Nat) < 4) : LI (wk_u (wk_u m 12 (m.1 1 (13 : Nat)) i) 1 (13 : Nat) (m.1 1 (13 : Nat) + 1)).1 (i + 1) := by
  have hF := LI_first h
  have h6 := h.2.2.2.2.1
  have h7 := h.2.2.2.2.2
  have e13 : (wk_u (wk_u m 12 (m.1 1 (13 : Nat)) i) 1 (13 : Nat) (m.1 1 (13 : Nat) + 1)).1 1 (13 : Nat) = m.1 1 (13 : Nat) + 1 := by simp (decide := true) only [wk_u_at, wk_ul_1, and_self, and_true, true_and, and_false, false_and, if_true, if_false]
  have e12 : ∀ k, (wk_u (wk_u m 12 (m.1 1 (13 : Nat)) i) 1 (13 : Nat) (m.1 1 (13 : Nat) + 1)).1 12 k = if k = m.1 1 (13 : Nat) then i else m.1 12 k := by intro k; simp (decide := true) only [wk_u_at, wk_ul_1, and_self, and_true, true_and, and_false, false_and, if_true, if_false]
  have on : ∀ x, onS m.1 x → onS (wk_u (wk_u m 12 (m.1 1 (13 : Nat)) i) 1 (13 : Nat) (m.1 1 (13 : Nat) + 1)).1 x := by
    rintro x ⟨k, k0, k1, k2⟩
    exact ⟨k, k0, by rw [e13]; omega, by rw [e12, if_neg (by omega)]; exact k2⟩
  have on2 : onS (wk_u (wk_u m 12 (m.1 1 (13 : Nat)) i) 1 (13 : Nat) (m.1 1 (13 : Nat) + 1)).1 i := ⟨m.1 1 (13 : Nat), h6.1.1, by rw [e13]; omega, by rw [e12, if_pos rfl]⟩
  refine LI_step h (by omega) (by simp (decide := true) only [wk_u_at, wk_ul_1, and_self, and_true, true_and, and_false, false_and, if_true, if_false]) rfl rfl (fun _ _ => rfl) (fun _ _ => rfl) (fun _ _ => rfl) (fun _ _ => rfl) ⟨by rw [e13]; omega, fun k k0 k1 => ?_⟩ (fun j j0 j1 => ?_)
  · rw [e13] at k1
    rw [e12]
    split
    · omega
    · have := h6.2 k k0 (by omega)
      omega
  · by_cases e : j = i
    · subst e
      have g2 : (wk_u (wk_u m 12 (m.1 1 (13 : Nat)) j) 1 (13 : Nat) (m.1 1 (13 : Nat) + 1)).1 2 j = m.1 2 j := rfl
      have g7 : (wk_u (wk_u m 12 (m.1 1 (13 : Nat)) j) 1 (13 : Nat) (m.1 1 (13 : Nat) + 1)).1 7 j = m.1 7 j := rfl
      unfold cPl
      rw [g2, g7]
      exact ⟨by omega, fun z => by omega, fun z => by omega, fun z => ⟨Or.inl on2, fun y => absurd e7 y⟩, fun z => Or.inl on2⟩
    · exact cPl_mono (f := m.1) (by omega) rfl rfl (Or.inl rfl) (fun x hx hh => hh.imp (on x) (fun z => ⟨z.1, by have := z.2; show m.1 8 x < i + 1; omega⟩)) (by omega) (h7 j j0 (by omega))
theorem LI_else {m : wk_M} {i : Int} (h : LI m.1 i) (o : m.1 2 i = 10) (d : 0 < m.1 1 (13 : Nat)) (e6 : m.1 6 i = m.1 12 (m.1 1 (13 : Nat) - 1)) : LI (wk_u m 7 (m.1 6 i) i).1 (i + 1) := by
  have hF := LI_first h
  have h6 := h.2.2.2.2.1
  have h7 := h.2.2.2.2.2
  have ho := h6.2 (m.1 1 (13 : Nat) - 1) (by omega) (by omega)
  rw [← e6] at ho
  refine LI_step h (by omega) rfl rfl rfl (fun _ _ => rfl) (fun _ _ => rfl) (fun x hx => if_neg (by omega)) (fun _ _ => rfl) ⟨h6.1, fun k k0 k1 => ⟨(h6.2 k k0 k1).1, by have := (h6.2 k k0 k1).2; show m.1 12 k < i + 1; omega⟩⟩ (fun j j0 j1 => ?_)
  by_cases e : j = i
  · subst e
    have g2 : (wk_u m 7 (m.1 6 j) j).1 2 j = m.1 2 j := rfl
    have g6 : (wk_u m 7 (m.1 6 j) j).1 6 j = m.1 6 j := rfl
    unfold cPl
    rw [g2, g6]
    exact ⟨by omega, fun z => ⟨by omega, Or.inl ⟨m.1 1 (13 : Nat) - 1, by omega, by show m.1 1 (13 : Nat) - 1 < m.1 1 (13 : Nat); omega, e6.symm⟩⟩, fun z => by omega, fun z => by omega, fun z => by omega⟩
  · refine cPl_mono (f := m.1) (by omega) rfl rfl ?_ (fun x hx hh => hh.imp id (fun z => ⟨z.1, by have := z.2; show m.1 8 x < i + 1; omega⟩)) (by omega) (h7 j j0 (by omega))
    by_cases ej : j = m.1 6 i
    · refine Or.inr ?_
      have g : (wk_u m 7 (m.1 6 i) i).1 7 j = i := if_pos ⟨rfl, ej⟩
      rw [g]
      omega
    · exact Or.inl (if_neg (fun z => ej z.2))
theorem LI_end {m : wk_M} {i : Int} (h : LI m.1 i) (o : m.1 2 i = 12) (d : 0 < m.1 1 (13 : Nat)) (e6 : m.1 6 i = m.1 12 (m.1 1 (13 : Nat) - 1)) : LI (wk_u (wk_u m 8 (m.1 6 i) i) 1 (13 : Nat) (m.1 1 (13 : Nat) - 1)).1 (i + 1) := by
  have hF := LI_first h
  have h6 := h.2.2.2.2.1
  have h7 := h.2.2.2.2.2
  have ho := h6.2 (m.1 1 (13 : Nat) - 1) (by omega) (by omega)
  rw [← e6] at ho
  have e13 : (wk_u (wk_u m 8 (m.1 6 i) i) 1 (13 : Nat) (m.1 1 (13 : Nat) - 1)).1 1 (13 : Nat) = m.1 1 (13 : Nat) - 1 := by simp (decide := true) only [wk_u_at, wk_ul_1, and_self, and_true, true_and, and_false, false_and, if_true, if_false]
  have e8 : ∀ x, (wk_u (wk_u m 8 (m.1 6 i) i) 1 (13 : Nat) (m.1 1 (13 : Nat) - 1)).1 8 x = if x = m.1 6 i then i else m.1 8 x := by intro x; simp (decide := true) only [wk_u_at, wk_ul_1, and_self, and_true, true_and, and_false, false_and, if_true, if_false]
  refine LI_step h (by omega) (by simp (decide := true) only [wk_u_at, wk_ul_1, and_self, and_true, true_and, and_false, false_and, if_true, if_false]) rfl rfl (fun _ _ => rfl) (fun _ _ => rfl) (fun _ _ => rfl) (fun x hx => by rw [e8, if_neg (by omega)]) ⟨by rw [e13]; omega, fun k k0 k1 => ?_⟩ (fun j j0 j1 => ?_)
  · rw [e13] at k1
    have := h6.2 k k0 (by omega)
    show cFi m.1 ≤ m.1 12 k ∧ m.1 12 k < i + 1
    omega
  · by_cases e : j = i
    · subst e
      have g2 : (wk_u (wk_u m 8 (m.1 6 j) j) 1 (13 : Nat) (m.1 1 (13 : Nat) - 1)).1 2 j = m.1 2 j := rfl
      have g6 : (wk_u (wk_u m 8 (m.1 6 j) j) 1 (13 : Nat) (m.1 1 (13 : Nat) - 1)).1 6 j = m.1 6 j := rfl
      unfold cPl
      rw [g2, g6]
      exact ⟨by omega, fun z => by omega, fun z => by omega, fun z => by omega, fun z => by omega⟩
    · refine cPl_mono (f := m.1) (by omega) rfl rfl (Or.inl rfl) (fun x hx hh => ?_) (by omega) (h7 j j0 (by omega))
      rw [e8]
      by_cases ex : x = m.1 6 i
      · rw [if_pos ex]
        exact Or.inr (by omega)
      · rw [if_neg ex]
        rcases hh with ⟨k, k0, k1, k2⟩ | hh
        · refine Or.inl ⟨k, k0, ?_, k2⟩
          rw [e13]
          have : k ≠ m.1 1 (13 : Nat) - 1 := fun z => ex (by rw [← k2, z, e6])
          omega
        · exact Or.inr (by omega)
theorem LI_at {f : Nat → Int → Int} {i j : Int} (h : LI f i) (d : f 1 (13 : Nat) = 0) (j0 : cFi f ≤ j) (j1 : j < i) : cAt f (cFi f) i j := by
  obtain ⟨h1, h2, h3, h4, h5⟩ := h.2.2.2.2.2 j j0 j1
  have no : ∀ x, ¬ onS f x := by
    rintro x ⟨k, k0, k1, -⟩
    omega
  exact ⟨h1, fun z => ⟨(h2 z).1, by rcases (h2 z).2 with q | q; exact absurd q (no _); omega⟩, fun z => by have := h3 z; omega, fun z => by rcases (h4 z).1 with q | q; exact absurd q (no _); exact ⟨q.1, q.2, fun y => by have := (h4 z).2 y; omega⟩, fun z => by rcases h5 z with q | q; exact absurd q (no _); omega⟩
theorem LI_proc {m : wk_M} {i : Int} (h : LI m.1 i) (d : m.1 1 (13 : Nat) = 0) (e : m.1 1 (11 : Nat) < 4) : LI (wk_u (wk_u (wk_u m 11 (m.1 1 (11 : Nat) - 1) i) 10 (m.1 1 (11 : Nat)) (i + 1)) 1 (11 : Nat) (m.1 1 (11 : Nat) + 1)).1 (i + 1) := by
  have hF := LI_first h
  have hA := fun j j0 j1 => LI_at (j := j) h d j0 j1
  obtain ⟨⟨h1, h2⟩, h3, h4, h5, h6, h7⟩ := id h
  generalize hg : (wk_u (wk_u (wk_u m 11 (m.1 1 (11 : Nat) - 1) i) 10 (m.1 1 (11 : Nat)) (i + 1)) 1 (11 : Nat) (m.1 1 (11 : Nat) + 1)).1 = g
  have e11 : g 1 (11 : Nat) = m.1 1 (11 : Nat) + 1 := by rw [← hg]; simp (decide := true) only [wk_u_at, wk_ul_1, and_self, and_true, true_and, and_false, false_and, if_true, if_false]
  have e13 : g 1 (13 : Nat) = 0 := by rw [← hg, ← d]; simp (decide := true) only [wk_u_at, wk_ul_1, and_self, and_true, true_and, and_false, false_and, if_true, if_false]
  have g10 : ∀ p, g 10 p = if p = m.1 1 (11 : Nat) then i + 1 else m.1 10 p := by intro p; rw [← hg]; simp (decide := true) only [wk_u_at, wk_ul_1, and_self, and_true, true_and, and_false, false_and, if_true, if_false]
  have g11 : ∀ p, g 11 p = if p = m.1 1 (11 : Nat) - 1 then i else m.1 11 p := by intro p; rw [← hg]; simp (decide := true) only [wk_u_at, wk_ul_1, and_self, and_true, true_and, and_false, false_and, if_true, if_false]
  have g2 : g 2 = m.1 2 := by rw [← hg]; rfl
  have g6 : g 6 = m.1 6 := by rw [← hg]; rfl
  have g7 : g 7 = m.1 7 := by rw [← hg]; rfl
  have g8 : g 8 = m.1 8 := by rw [← hg]; rfl
  have eF : cFi g = i + 1 := by
    unfold cFi
    rw [e11, g10, if_pos (by omega)]
  have cc : ∀ lo hi j, cAt m.1 lo hi j → cAt g lo hi j := by
    intro lo hi j q
    unfold cAt at *
    rw [g2, g6, g7, g8]
    exact q
  refine ⟨⟨by rw [e11]; omega, by omega⟩, fun p p0 p1 => ?_, fun p p0 p1 => ?_, fun p j p0 p1 j0 j1 => ?_, ⟨by rw [e13]; omega, fun k k0 k1 => by rw [e13] at k1; omega⟩, fun j j0 j1 => by rw [eF] at j0; omega⟩
  · rw [e11] at p1
    rw [g10]
    split
    · omega
    · have := h3 p p0 (by omega)
      omega
  · rw [e11] at p1
    rw [eF, g10, g11, if_neg (by omega)]
    split
    · rename_i ep
      subst ep
      have : cFi m.1 = m.1 10 (m.1 1 (11 : Nat) - 1) := rfl
      omega
    · have := h4 p p0 (by omega)
      omega
  · rw [e11] at p1
    rw [g10, if_neg (by omega)] at j0
    rw [g10, if_neg (by omega)]
    rw [g11] at j1 ⊢
    by_cases ep : p = m.1 1 (11 : Nat) - 1
    · rw [if_pos ep] at j1 ⊢
      have e2 : m.1 10 p = cFi m.1 := by rw [ep]; rfl
      rw [e2] at j0 ⊢
      exact cc _ _ _ (hA j j0 j1)
    · rw [if_neg ep] at j1 ⊢
      exact cc _ _ _ (h5 p j p0 (by omega) j0 j1)

def LK (f : Nat → Int → Int) (i : Int) : Prop := ∀ j, 0 ≤ j → j < i → (f 2 j = 10 ∨ f 2 j = 12) → 0 ≤ f 6 j
theorem LK_ne {f : Nat → Int → Int} {i : Int} (hk : LK f i) (o : ¬ f 2 i = 10 ∧ ¬ f 2 i = 12) : LK f (i + 1) := by
  intro j j0 j1 z
  by_cases e : j = i
  · subst e
    exact absurd z (by omega)
  · exact hk j j0 (by omega) z
theorem LK_in {f : Nat → Int → Int} {i : Int} (hk : LK f i) (o : 0 ≤ f 6 i) : LK f (i + 1) := by
  intro j j0 j1 z
  by_cases e : j = i
  · subst e
    exact o
  · exact hk j j0 (by omega) z
theorem LK_pre {m : wk_M} {i a b : Int} (h : LK m.1 i) : LK (wk_u (wk_u (wk_u (wk_u m 9 i a) 6 i b) 7 i (-1)) 8 i (-1)).1 i := by
  intro j j0 j1 z
  have e : (wk_u (wk_u (wk_u (wk_u m 9 i a) 6 i b) 7 i (-1)) 8 i (-1)).1 6 j = m.1 6 j := if_neg (by omega)
  rw [e]
  exact h j j0 j1 z
theorem LK_same {f g : Nat → Int → Int} {i : Int} (e2 : g 2 = f 2) (e6 : g 6 = f 6) (h : LK f i) : LK g i := by
  unfold LK
  rw [e2, e6]
  exact h
/-- ELSE and END have an IF or WHILE -/
def cEn (f : Nat → Int → Int) : Prop := LK f (f 1 (4 : Nat))
theorem cEn_same {f g : Nat → Int → Int} (e1 : g 1 (4 : Nat) = f 1 (4 : Nat)) (e2 : g 2 = f 2) (e6 : g 6 = f 6) (h : cEn f) : cEn g := by
  unfold cEn
  rw [e1]
  exact LK_same e2 e6 h
