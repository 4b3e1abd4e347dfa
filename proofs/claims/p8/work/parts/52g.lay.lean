/-! the structure as a function of the instructions alone -/
def lyZ : wk_M := (fun _ _ => 0, fun _ _ => 0)
def lyT (G : wk_M) : Int := if G.1 1 (13 : Nat) = 0 then -1 else G.1 12 (G.1 1 (13 : Nat) - 1)
def lyP (G : wk_M) (i : Int) : wk_M := wk_u (wk_u (wk_u (wk_u G 9 i (G.1 1 (11 : Nat) - 1)) 6 i (lyT G)) 7 i (-1)) 8 i (-1)
def lyG (op : Int → Int) (G : wk_M) (i : Int) : wk_M :=
  if op i = 9 ∨ op i = 11 then wk_u (wk_u (lyP G i) 12 (G.1 1 (13 : Nat)) i) 1 (13 : Nat) (G.1 1 (13 : Nat) + 1)
  else if op i = 10 then wk_u (lyP G i) 7 (lyT G) i
  else if op i = 12 then wk_u (wk_u (lyP G i) 8 (lyT G) i) 1 (13 : Nat) (G.1 1 (13 : Nat) - 1)
  else if op i = 18 then wk_u (wk_u (wk_u (lyP G i) 11 (G.1 1 (11 : Nat) - 1) i) 10 (G.1 1 (11 : Nat)) (i + 1)) 1 (11 : Nat) (G.1 1 (11 : Nat) + 1)
  else lyP G i
/-- the instruction can't stand here -/
def lyB (op : Int → Int) (G : wk_M) (i : Int) : Prop := ((op i = 9 ∨ op i = 11) ∧ G.1 1 (13 : Nat) = 4) ∨ (op i = 10 ∧ (G.1 1 (13 : Nat) = 0 ∨ ¬ op (lyT G) = 9 ∨ ¬ G.1 7 (lyT G) = -1)) ∨ (op i = 12 ∧ G.1 1 (13 : Nat) = 0) ∨ (op i = 18 ∧ (¬ G.1 1 (13 : Nat) = 0 ∨ G.1 1 (11 : Nat) = 4))
def lyI (op : Int → Int) : Nat → wk_M
  | 0 => wk_u (wk_u (wk_u lyZ 1 (13 : Nat) 0) 1 (11 : Nat) 1) 10 0 0
  | n + 1 => lyG op (lyI op n) (n : Int)
theorem lyI_succ (op : Int → Int) {t : Int} (h : 0 ≤ t) : lyI op (t + 1).toNat = lyG op (lyI op t.toNat) t := by
  have e : (t + 1).toNat = t.toNat + 1 := by omega
  rw [e]
  show lyG op (lyI op t.toNat) ((t.toNat : Nat) : Int) = _
  rw [Int.toNat_of_nonneg h]
/-- tables that are the structure's, ahead of i -/
def sG (G : wk_M) (pc d : Int) (a6 a7 a8 a9 a10 a11 a12 : Int → Int) (i : Int) : Prop := (pc = G.1 1 (11 : Nat) ∧ d = G.1 1 (13 : Nat)) ∧ (∀ j, 0 ≤ j → j < i → a6 j = G.1 6 j ∧ a7 j = G.1 7 j ∧ a8 j = G.1 8 j ∧ a9 j = G.1 9 j) ∧ (∀ p, 0 ≤ p → p < pc → a10 p = G.1 10 p) ∧ (∀ p, 0 ≤ p → p < pc - 1 → a11 p = G.1 11 p) ∧ (∀ k, 0 ≤ k → k < d → a12 k = G.1 12 k)
theorem sG_zero {op : Int → Int} {pc d : Int} {a6 a7 a8 a9 a10 a11 a12 : Int → Int} (e1 : pc = 1) (e2 : d = 0) (e3 : a10 0 = 0) : sG (lyI op 0) pc d a6 a7 a8 a9 a10 a11 a12 0 := by
  have g11 : (lyI op 0).1 1 (11 : Nat) = 1 := by
    show (wk_u (wk_u (wk_u lyZ 1 (13 : Nat) 0) 1 (11 : Nat) 1) 10 0 0).1 1 (11 : Nat) = 1
    simp (decide := true) only [wk_u_at, wk_ul_1, and_self, and_true, true_and, and_false, false_and, if_true, if_false]
  have g13 : (lyI op 0).1 1 (13 : Nat) = 0 := by
    show (wk_u (wk_u (wk_u lyZ 1 (13 : Nat) 0) 1 (11 : Nat) 1) 10 0 0).1 1 (13 : Nat) = 0
    simp (decide := true) only [wk_u_at, wk_ul_1, and_self, and_true, true_and, and_false, false_and, if_true, if_false]
  have g10 : (lyI op 0).1 10 0 = 0 := by
    show (wk_u (wk_u (wk_u lyZ 1 (13 : Nat) 0) 1 (11 : Nat) 1) 10 0 0).1 10 0 = 0
    simp (decide := true) only [wk_u_at, wk_ul_1, and_self, and_true, true_and, and_false, false_and, if_true, if_false]
  refine ⟨⟨by omega, by omega⟩, fun j j0 j1 => by omega, fun p p0 p1 => ?_, fun p p0 p1 => by omega, fun k k0 k1 => by omega⟩
  have e : p = 0 := by omega
  rw [e, g10, e3]
theorem lyT_eq {G : wk_M} {i pc d : Int} {a6 a7 a8 a9 a10 a11 a12 : Int → Int} (h : sG G pc d a6 a7 a8 a9 a10 a11 a12 i) {x : Int} (hx : (d = 0 ∧ x = -1) ∨ (0 < d ∧ x = a12 (d - 1))) : lyT G = x := by
  obtain ⟨⟨h1, h2⟩, -, -, -, h5⟩ := h
  unfold lyT
  rcases hx with ⟨e, ex⟩ | ⟨e, ex⟩
  · rw [if_pos (show G.1 1 (13 : Nat) = 0 by omega)]
    exact ex.symm
  · rw [if_neg (show ¬ G.1 1 (13 : Nat) = 0 by omega), ← h2, ex]
    exact (h5 _ (by omega) (by omega)).symm
theorem sG_pre {G : wk_M} {i pc d : Int} {a6 a7 a8 a9 a10 a11 a12 : Int → Int} (h : sG G pc d a6 a7 a8 a9 a10 a11 a12 i) {x : Int} (hx : lyT G = x) {b6 b7 b8 b9 : Int → Int} (u6 : ∀ j, b6 j = if j = i then x else a6 j) (u7 : ∀ j, b7 j = if j = i then -1 else a7 j) (u8 : ∀ j, b8 j = if j = i then -1 else a8 j) (u9 : ∀ j, b9 j = if j = i then pc - 1 else a9 j) : sG (lyP G i) pc d b6 b7 b8 b9 a10 a11 a12 (i + 1) := by
  obtain ⟨⟨h1, h2⟩, h3, h4, h5, h6⟩ := h
  refine ⟨⟨h1, h2⟩, fun j j0 j1 => ?_, h4, h5, h6⟩
  have g6 : (lyP G i).1 6 j = if j = i then lyT G else G.1 6 j := by unfold lyP; simp (decide := true) only [wk_u_at, wk_ul_1, and_self, and_true, true_and, and_false, false_and, if_true, if_false]
  have g7 : (lyP G i).1 7 j = if j = i then -1 else G.1 7 j := by unfold lyP; simp (decide := true) only [wk_u_at, wk_ul_1, and_self, and_true, true_and, and_false, false_and, if_true, if_false]
  have g8 : (lyP G i).1 8 j = if j = i then -1 else G.1 8 j := by unfold lyP; simp (decide := true) only [wk_u_at, wk_ul_1, and_self, and_true, true_and, and_false, false_and, if_true, if_false]
  have g9 : (lyP G i).1 9 j = if j = i then G.1 1 (11 : Nat) - 1 else G.1 9 j := by unfold lyP; simp (decide := true) only [wk_u_at, wk_ul_1, and_self, and_true, true_and, and_false, false_and, if_true, if_false]
  rw [u6, u7, u8, u9, g6, g7, g8, g9]
  by_cases e : j = i
  · refine ⟨?_, ?_, ?_, ?_⟩
    · rw [if_pos e, if_pos e]
      exact hx.symm
    · rw [if_pos e, if_pos e]
    · rw [if_pos e, if_pos e]
    · rw [if_pos e, if_pos e, h1]
  · obtain ⟨q6, q7, q8, q9⟩ := h3 j j0 (by omega)
    refine ⟨?_, ?_, ?_, ?_⟩
    · rw [if_neg e, if_neg e]
      exact q6
    · rw [if_neg e, if_neg e]
      exact q7
    · rw [if_neg e, if_neg e]
      exact q8
    · rw [if_neg e, if_neg e]
      exact q9
theorem sG_same {G : wk_M} {i pc d pc' d' : Int} {a6 a7 a8 a9 a10 a11 a12 b6 b7 b8 b9 b10 b11 b12 : Int → Int} (h : sG G pc d a6 a7 a8 a9 a10 a11 a12 i) (e1 : pc' = pc) (e2 : d' = d) (e6 : ∀ j, b6 j = a6 j) (e7 : ∀ j, b7 j = a7 j) (e8 : ∀ j, b8 j = a8 j) (e9 : ∀ j, b9 j = a9 j) (e10 : ∀ j, b10 j = a10 j) (e11 : ∀ j, b11 j = a11 j) (e12 : ∀ j, b12 j = a12 j) : sG G pc' d' b6 b7 b8 b9 b10 b11 b12 i := by
  subst e1 e2
  rw [funext e6, funext e7, funext e8, funext e9, funext e10, funext e11, funext e12]
  exact h

theorem ly_plain {op : Int → Int} {G : wk_M} {i pc d x pc' d' : Int} {a6 a7 a8 a9 a10 a11 a12 b6 b7 b8 b9 b10 b11 b12 : Int → Int} (h : sG G pc d a6 a7 a8 a9 a10 a11 a12 i) (hx : lyT G = x) (o : ¬ op i = 9 ∧ ¬ op i = 10 ∧ ¬ op i = 11 ∧ ¬ op i = 12 ∧ ¬ op i = 18) (ep : pc' = pc) (ed : d' = d) (u6 : ∀ j, b6 j = if j = i then x else a6 j) (u7 : ∀ j, b7 j = if j = i then -1 else a7 j) (u8 : ∀ j, b8 j = if j = i then -1 else a8 j) (u9 : ∀ j, b9 j = if j = i then pc - 1 else a9 j) (u10 : ∀ j, b10 j = a10 j) (u11 : ∀ j, b11 j = a11 j) (u12 : ∀ j, b12 j = a12 j) : ¬ lyB op G i ∧ sG (lyG op G i) pc' d' b6 b7 b8 b9 b10 b11 b12 (i + 1) := by
  refine ⟨by unfold lyB; omega, ?_⟩
  have e : lyG op G i = lyP G i := by
    unfold lyG
    rw [if_neg (show ¬ (op i = 9 ∨ op i = 11) by omega), if_neg (show ¬ op i = 10 by omega), if_neg (show ¬ op i = 12 by omega), if_neg (show ¬ op i = 18 by omega)]
  rw [e]
  exact sG_same (sG_pre h hx u6 u7 u8 u9) ep ed (fun _ => rfl) (fun _ => rfl) (fun _ => rfl) (fun _ => rfl) u10 u11 u12

theorem ly_open {op : Int → Int} {G : wk_M} {i pc d x pc' d' : Int} {a6 a7 a8 a9 a10 a11 a12 b6 b7 b8 b9 b10 b11 b12 : Int → Int} (h : sG G pc d a6 a7 a8 a9 a10 a11 a12 i) (hx : lyT G = x) (o : op i = 9 ∨ op i = 11) (hd : ¬ d = 4) (ep : pc' = pc) (ed : d' = d + 1) (u6 : ∀ j, b6 j = if j = i then x else a6 j) (u7 : ∀ j, b7 j = if j = i then -1 else a7 j) (u8 : ∀ j, b8 j = if j = i then -1 else a8 j) (u9 : ∀ j, b9 j = if j = i then pc - 1 else a9 j) (u10 : ∀ j, b10 j = a10 j) (u11 : ∀ j, b11 j = a11 j) (u12 : ∀ k, b12 k = if k = d then i else a12 k) : ¬ lyB op G i ∧ sG (lyG op G i) pc' d' b6 b7 b8 b9 b10 b11 b12 (i + 1) := by
  have q := sG_pre h hx u6 u7 u8 u9
  have h2 := h.1.2
  refine ⟨by unfold lyB; omega, ?_⟩
  have e : lyG op G i = wk_u (wk_u (lyP G i) 12 (G.1 1 (13 : Nat)) i) 1 (13 : Nat) (G.1 1 (13 : Nat) + 1) := by
    unfold lyG
    rw [if_pos o]
  rw [e]
  obtain ⟨⟨q1, q2⟩, q3, q4, q5, q6⟩ := q
  refine sG_same (pc := pc) (d := d + 1) (a6 := b6) (a7 := b7) (a8 := b8) (a9 := b9) (a10 := a10) (a11 := a11) (a12 := b12) ⟨⟨?_, ?_⟩, q3, q4, q5, fun k k0 k1 => ?_⟩ ep ed (fun _ => rfl) (fun _ => rfl) (fun _ => rfl) (fun _ => rfl) u10 u11 (fun _ => rfl)
  · simp (decide := true) only [wk_u_at, wk_ul_1, and_self, and_true, true_and, and_false, false_and, if_true, if_false]
    exact q1
  · simp (decide := true) only [wk_u_at, wk_ul_1, and_self, and_true, true_and, and_false, false_and, if_true, if_false]
    omega
  · have e12 : (wk_u (wk_u (lyP G i) 12 (G.1 1 (13 : Nat)) i) 1 (13 : Nat) (G.1 1 (13 : Nat) + 1)).1 12 k = if k = G.1 1 (13 : Nat) then i else (lyP G i).1 12 k := by simp (decide := true) only [wk_u_at, wk_ul_1, and_self, and_true, true_and, and_false, false_and, if_true, if_false]
    rw [u12, e12, ← h2]
    by_cases e : k = d
    · rw [if_pos e, if_pos e]
    · rw [if_neg e, if_neg e]
      exact q6 k k0 (by omega)

theorem ly_else {op : Int → Int} {G : wk_M} {i pc d x pc' d' : Int} {a6 a7 a8 a9 a10 a11 a12 b6 b7 b8 b9 b10 b11 b12 : Int → Int} (h : sG G pc d a6 a7 a8 a9 a10 a11 a12 i) (hx : lyT G = x) (o : op i = 10) (x0 : 0 ≤ x) (x1 : x < i) (o9 : op x = 9) (h7 : a7 x = -1) (hd : ¬ d = 0) (ep : pc' = pc) (ed : d' = d) (u6 : ∀ j, b6 j = if j = i then x else a6 j) (u7 : ∀ j, b7 j = if j = x then i else if j = i then -1 else a7 j) (u8 : ∀ j, b8 j = if j = i then -1 else a8 j) (u9 : ∀ j, b9 j = if j = i then pc - 1 else a9 j) (u10 : ∀ j, b10 j = a10 j) (u11 : ∀ j, b11 j = a11 j) (u12 : ∀ j, b12 j = a12 j) : ¬ lyB op G i ∧ sG (lyG op G i) pc' d' b6 b7 b8 b9 b10 b11 b12 (i + 1) := by
  have q := sG_pre (b7 := fun j => if j = i then -1 else a7 j) h hx u6 (fun _ => rfl) u8 u9
  have h2 := h.1.2
  have g7 : G.1 7 x = -1 := by
    rw [← (h.2.1 x x0 x1).2.1]
    exact h7
  refine ⟨by unfold lyB; rw [hx]; omega, ?_⟩
  have e : lyG op G i = wk_u (lyP G i) 7 x i := by
    unfold lyG
    rw [if_neg (show ¬ (op i = 9 ∨ op i = 11) by omega), if_pos o, hx]
  rw [e]
  obtain ⟨⟨q1, q2⟩, q3, q4, q5, q6⟩ := q
  refine sG_same (pc := pc) (d := d) (a6 := b6) (a7 := b7) (a8 := b8) (a9 := b9) (a10 := a10) (a11 := a11) (a12 := a12) ⟨⟨q1, q2⟩, fun j j0 j1 => ?_, q4, q5, q6⟩ ep ed (fun _ => rfl) (fun _ => rfl) (fun _ => rfl) (fun _ => rfl) u10 u11 u12
  obtain ⟨r6, r7, r8, r9⟩ := q3 j j0 j1
  have e7 : (wk_u (lyP G i) 7 x i).1 7 j = if j = x then i else (lyP G i).1 7 j := by simp (decide := true) only [wk_u_at, wk_ul_1, and_self, and_true, true_and, and_false, false_and, if_true, if_false]
  refine ⟨r6, ?_, r8, r9⟩
  rw [u7, e7]
  by_cases ex : j = x
  · rw [if_pos ex, if_pos ex]
  · rw [if_neg ex, if_neg ex]
    exact r7

theorem ly_end {op : Int → Int} {G : wk_M} {i pc d x pc' d' : Int} {a6 a7 a8 a9 a10 a11 a12 b6 b7 b8 b9 b10 b11 b12 : Int → Int} (h : sG G pc d a6 a7 a8 a9 a10 a11 a12 i) (hx : lyT G = x) (o : op i = 12) (hd : ¬ d = 0) (ep : pc' = pc) (ed : d' = d - 1) (u6 : ∀ j, b6 j = if j = i then x else a6 j) (u7 : ∀ j, b7 j = if j = i then -1 else a7 j) (u8 : ∀ j, b8 j = if j = x then i else if j = i then -1 else a8 j) (u9 : ∀ j, b9 j = if j = i then pc - 1 else a9 j) (u10 : ∀ j, b10 j = a10 j) (u11 : ∀ j, b11 j = a11 j) (u12 : ∀ j, b12 j = a12 j) : ¬ lyB op G i ∧ sG (lyG op G i) pc' d' b6 b7 b8 b9 b10 b11 b12 (i + 1) := by
  have q := sG_pre (b8 := fun j => if j = i then -1 else a8 j) h hx u6 u7 (fun _ => rfl) u9
  have h2 := h.1.2
  refine ⟨by unfold lyB; omega, ?_⟩
  have e : lyG op G i = wk_u (wk_u (lyP G i) 8 x i) 1 (13 : Nat) (G.1 1 (13 : Nat) - 1) := by
    unfold lyG
    rw [if_neg (show ¬ (op i = 9 ∨ op i = 11) by omega), if_neg (show ¬ op i = 10 by omega), if_pos o, hx]
  rw [e]
  obtain ⟨⟨q1, q2⟩, q3, q4, q5, q6⟩ := q
  refine sG_same (pc := pc) (d := d - 1) (a6 := b6) (a7 := b7) (a8 := b8) (a9 := b9) (a10 := a10) (a11 := a11) (a12 := a12) ⟨⟨?_, ?_⟩, fun j j0 j1 => ?_, q4, q5, fun k k0 k1 => q6 k k0 (by omega)⟩ ep ed (fun _ => rfl) (fun _ => rfl) (fun _ => rfl) (fun _ => rfl) u10 u11 u12
  · simp (decide := true) only [wk_u_at, wk_ul_1, and_self, and_true, true_and, and_false, false_and, if_true, if_false]
    exact q1
  · simp (decide := true) only [wk_u_at, wk_ul_1, and_self, and_true, true_and, and_false, false_and, if_true, if_false]
    omega
  · obtain ⟨r6, r7, r8, r9⟩ := q3 j j0 j1
    have e8 : (wk_u (wk_u (lyP G i) 8 x i) 1 (13 : Nat) (G.1 1 (13 : Nat) - 1)).1 8 j = if j = x then i else (lyP G i).1 8 j := by simp (decide := true) only [wk_u_at, wk_ul_1, and_self, and_true, true_and, and_false, false_and, if_true, if_false]
    refine ⟨r6, r7, ?_, r9⟩
    rw [u8, e8]
    by_cases ex : j = x
    · rw [if_pos ex, if_pos ex]
    · rw [if_neg ex, if_neg ex]
      exact r8

theorem ly_proc {op : Int → Int} {G : wk_M} {i pc d x pc' d' : Int} {a6 a7 a8 a9 a10 a11 a12 b6 b7 b8 b9 b10 b11 b12 : Int → Int} (h : sG G pc d a6 a7 a8 a9 a10 a11 a12 i) (hx : lyT G = x) (o : op i = 18) (hd : d = 0) (hp : ¬ pc = 4) (ep : pc' = pc + 1) (ed : d' = d) (u6 : ∀ j, b6 j = if j = i then x else a6 j) (u7 : ∀ j, b7 j = if j = i then -1 else a7 j) (u8 : ∀ j, b8 j = if j = i then -1 else a8 j) (u9 : ∀ j, b9 j = if j = i then pc - 1 else a9 j) (u10 : ∀ p, b10 p = if p = pc then i + 1 else a10 p) (u11 : ∀ p, b11 p = if p = pc - 1 then i else a11 p) (u12 : ∀ j, b12 j = a12 j) : ¬ lyB op G i ∧ sG (lyG op G i) pc' d' b6 b7 b8 b9 b10 b11 b12 (i + 1) := by
  have q := sG_pre h hx u6 u7 u8 u9
  have h1 := h.1.1
  have h2 := h.1.2
  refine ⟨by unfold lyB; omega, ?_⟩
  have e : lyG op G i = wk_u (wk_u (wk_u (lyP G i) 11 (G.1 1 (11 : Nat) - 1) i) 10 (G.1 1 (11 : Nat)) (i + 1)) 1 (11 : Nat) (G.1 1 (11 : Nat) + 1) := by
    unfold lyG
    rw [if_neg (show ¬ (op i = 9 ∨ op i = 11) by omega), if_neg (show ¬ op i = 10 by omega), if_neg (show ¬ op i = 12 by omega), if_pos o]
  rw [e]
  obtain ⟨⟨q1, q2⟩, q3, q4, q5, q6⟩ := q
  refine sG_same (pc := pc + 1) (d := d) (a6 := b6) (a7 := b7) (a8 := b8) (a9 := b9) (a10 := b10) (a11 := b11) (a12 := a12) ⟨⟨?_, ?_⟩, q3, fun p p0 p1 => ?_, fun p p0 p1 => ?_, q6⟩ ep ed (fun _ => rfl) (fun _ => rfl) (fun _ => rfl) (fun _ => rfl) (fun _ => rfl) (fun _ => rfl) u12
  · simp (decide := true) only [wk_u_at, wk_ul_1, and_self, and_true, true_and, and_false, false_and, if_true, if_false]
    omega
  · simp (decide := true) only [wk_u_at, wk_ul_1, and_self, and_true, true_and, and_false, false_and, if_true, if_false]
    exact q2
  · have e10 : (wk_u (wk_u (wk_u (lyP G i) 11 (G.1 1 (11 : Nat) - 1) i) 10 (G.1 1 (11 : Nat)) (i + 1)) 1 (11 : Nat) (G.1 1 (11 : Nat) + 1)).1 10 p = if p = G.1 1 (11 : Nat) then i + 1 else (lyP G i).1 10 p := by simp (decide := true) only [wk_u_at, wk_ul_1, and_self, and_true, true_and, and_false, false_and, if_true, if_false]
    rw [u10, e10, ← h1]
    by_cases e : p = pc
    · rw [if_pos e, if_pos e]
    · rw [if_neg e, if_neg e]
      exact q4 p p0 (by omega)
  · have e11 : (wk_u (wk_u (wk_u (lyP G i) 11 (G.1 1 (11 : Nat) - 1) i) 10 (G.1 1 (11 : Nat)) (i + 1)) 1 (11 : Nat) (G.1 1 (11 : Nat) + 1)).1 11 p = if p = G.1 1 (11 : Nat) - 1 then i else (lyP G i).1 11 p := by simp (decide := true) only [wk_u_at, wk_ul_1, and_self, and_true, true_and, and_false, false_and, if_true, if_false]
    rw [u11, e11, ← h1]
    by_cases e : p = pc - 1
    · rw [if_pos e, if_pos e]
    · rw [if_neg e, if_neg e]
      exact q5 p p0 (by omega)

theorem lb_open {op : Int → Int} {G : wk_M} {i pc d : Int} {a6 a7 a8 a9 a10 a11 a12 : Int → Int} (h : sG G pc d a6 a7 a8 a9 a10 a11 a12 i) (o : op i = 9 ∨ op i = 11) (hd : d = 4) : lyB op G i := by
  have h2 := h.1.2
  unfold lyB
  omega
theorem lb_else0 {op : Int → Int} {G : wk_M} {i pc d : Int} {a6 a7 a8 a9 a10 a11 a12 : Int → Int} (h : sG G pc d a6 a7 a8 a9 a10 a11 a12 i) (o : op i = 10) (hd : d = 0) : lyB op G i := by
  have h2 := h.1.2
  unfold lyB
  omega
theorem lb_else1 {op : Int → Int} {G : wk_M} {i pc d : Int} {a6 a7 a8 a9 a10 a11 a12 : Int → Int} (h : sG G pc d a6 a7 a8 a9 a10 a11 a12 i) {x : Int} (hx : lyT G = x) (o : op i = 10) (x0 : 0 ≤ x) (x1 : x < i) (hb : ¬ op x = 9 ∨ ¬ a7 x = -1) : lyB op G i := by
  have h7 := (h.2.1 x x0 x1).2.1
  unfold lyB
  rw [hx]
  omega
theorem lb_end {op : Int → Int} {G : wk_M} {i pc d : Int} {a6 a7 a8 a9 a10 a11 a12 : Int → Int} (h : sG G pc d a6 a7 a8 a9 a10 a11 a12 i) (o : op i = 12) (hd : d = 0) : lyB op G i := by
  have h2 := h.1.2
  unfold lyB
  omega
theorem lb_proc {op : Int → Int} {G : wk_M} {i pc d : Int} {a6 a7 a8 a9 a10 a11 a12 : Int → Int} (h : sG G pc d a6 a7 a8 a9 a10 a11 a12 i) (o : op i = 18) (hb : ¬ d = 0 ∨ pc = 4) : lyB op G i := by
  have h1 := h.1.1
  have h2 := h.1.2
  unfold lyB
  omega
theorem ly_next {op : Int → Int} {t pc d : Int} {a6 a7 a8 a9 a10 a11 a12 : Int → Int} (t0 : 0 ≤ t) (hN : ∀ j, 0 ≤ j → j < t → ¬ lyB op (lyI op j.toNat) j) (z : ¬ lyB op (lyI op t.toNat) t ∧ sG (lyG op (lyI op t.toNat) t) pc d a6 a7 a8 a9 a10 a11 a12 (t + 1)) : sG (lyI op (t + 1).toNat) pc d a6 a7 a8 a9 a10 a11 a12 (t + 1) ∧ ∀ j, 0 ≤ j → j < t + 1 → ¬ lyB op (lyI op j.toNat) j := by
  refine ⟨by rw [lyI_succ op t0]; exact z.2, fun j j0 j1 => ?_⟩
  by_cases e : j = t
  · rw [e]
    exact z.1
  · exact hN j j0 (by omega)

/-- what is wrong with the structure: nothing (-1), or the first instruction that can't stand, or that something is open at the end -/
def lyS (op : Int → Int) (c v : Int) : Prop := ((0 ≤ v ∧ v < c) ∧ lyB op (lyI op v.toNat) v ∧ ∀ j, 0 ≤ j → j < v → ¬ lyB op (lyI op j.toNat) j) ∨ ((∀ j, 0 ≤ j → j < c → ¬ lyB op (lyI op j.toNat) j) ∧ ((v = c ∧ ¬ (lyI op c.toNat).1 1 (13 : Nat) = 0) ∨ (v = -1 ∧ (lyI op c.toNat).1 1 (13 : Nat) = 0)))
def cOK (f : Int → Int) (P i : Int) : Prop := ∀ j, 0 ≤ j → j < i → 13 ≤ f j → f j ≤ 16 → f j - 13 < P
def lyF (op : Int → Int) (c P v : Int) : Prop := (v = -1 ∧ cOK op P c) ∨ ((0 ≤ v ∧ v < c ∧ 13 ≤ op v ∧ op v ≤ 16 ∧ P ≤ op v - 13) ∧ cOK op P v)
def lyC (op : Int → Int) (c v : Int) : Prop := ∃ u, lyS op c u ∧ ((¬ u = -1 ∧ v = u) ∨ (u = -1 ∧ lyF op c ((lyI op c.toNat).1 1 (11 : Nat)) v))
theorem lyS_uniq {op : Int → Int} {c u v : Int} (hu : lyS op c u) (hv : lyS op c v) : u = v := by
  rcases hu with ⟨⟨a0, a1⟩, ab, an⟩ | ⟨al, ad⟩
  · rcases hv with ⟨⟨b0, b1⟩, bb, bn⟩ | ⟨bl, bd⟩
    · rcases Int.lt_trichotomy u v with h | h | h
      · exact absurd ab (bn u a0 h)
      · exact h
      · exact absurd bb (an v b0 h)
    · exact absurd ab (bl u a0 a1)
  · rcases hv with ⟨⟨b0, b1⟩, bb, bn⟩ | ⟨bl, bd⟩
    · exact absurd bb (al v b0 b1)
    · clear al bl
      omega
theorem lyF_uniq {op : Int → Int} {c P u v : Int} (hu : lyF op c P u) (hv : lyF op c P v) : u = v := by
  rcases hu with ⟨a, al⟩ | ⟨⟨a0, a1, a2, a3, a4⟩, an⟩
  · rcases hv with ⟨b, bl⟩ | ⟨⟨b0, b1, b2, b3, b4⟩, bn⟩
    · omega
    · have := al v b0 b1 b2 b3
      omega
  · rcases hv with ⟨b, bl⟩ | ⟨⟨b0, b1, b2, b3, b4⟩, bn⟩
    · have := bl u a0 a1 a2 a3
      omega
    · rcases Int.lt_trichotomy u v with h | h | h
      · have := bn u a0 h a2 a3
        omega
      · exact h
      · have := an v b0 h b2 b3
        omega
theorem lyC_uniq {op : Int → Int} {c u v : Int} (hu : lyC op c u) (hv : lyC op c v) : u = v := by
  obtain ⟨a, ha, h⟩ := hu
  obtain ⟨b, hb, h'⟩ := hv
  have e := lyS_uniq ha hb
  subst e
  rcases h with ⟨p, q⟩ | ⟨p, q⟩
  · rcases h' with ⟨p', q'⟩ | ⟨p', q'⟩
    · rw [q, q']
    · exact absurd p' p
  · rcases h' with ⟨p', q'⟩ | ⟨p', q'⟩
    · exact absurd p p'
    · exact lyF_uniq q q'
theorem lyC_lo {op : Int → Int} {c v : Int} (c0 : 0 ≤ c) (h : lyC op c v) : -1 ≤ v := by
  obtain ⟨u, hu, ⟨p, q⟩ | ⟨p, q⟩⟩ := h
  · rcases hu with ⟨⟨a0, a1⟩, -, -⟩ | ⟨-, a⟩ <;> omega
  · rcases q with ⟨a, -⟩ | ⟨⟨a, -⟩, -⟩ <;> omega
theorem cOK_op {op f : Int → Int} {c P i : Int} (ho : ∀ j, 0 ≤ j → j < c → op j = f j) (hi : i ≤ c) (h : cOK f P i) : cOK op P i := fun j j0 j1 a b => by
  have e := ho j j0 (by omega)
  rw [e] at a b ⊢
  exact h j j0 j1 a b
/-- the tables of a structure that stands -/
def sZ (G : wk_M) (c pc : Int) (a6 a7 a8 a9 a10 a11 : Int → Int) : Prop := pc = G.1 1 (11 : Nat) ∧ (∀ j, 0 ≤ j → j < c → a6 j = G.1 6 j ∧ a7 j = G.1 7 j ∧ a8 j = G.1 8 j ∧ a9 j = G.1 9 j) ∧ (∀ p, 0 ≤ p → p < pc → a10 p = G.1 10 p) ∧ (∀ p, 0 ≤ p → p < pc → a11 p = if p = pc - 1 then c else G.1 11 p)
theorem sZ_of {op : Int → Int} {c t pc d pc' : Int} {a6 a7 a8 a9 a10 a11 a12 b6 b7 b8 b9 b10 b11 : Int → Int} (h : sG (lyI op t.toNat) pc d a6 a7 a8 a9 a10 a11 a12 t) (ht : t = c) (ep : pc' = pc) (e6 : ∀ j, b6 j = a6 j) (e7 : ∀ j, b7 j = a7 j) (e8 : ∀ j, b8 j = a8 j) (e9 : ∀ j, b9 j = a9 j) (e10 : ∀ j, b10 j = a10 j) (u11 : ∀ p, b11 p = if p = pc - 1 then c else a11 p) : sZ (lyI op c.toNat) c pc' b6 b7 b8 b9 b10 b11 := by
  subst ht ep
  rw [funext e6, funext e7, funext e8, funext e9, funext e10]
  obtain ⟨⟨h1, h2⟩, h3, h4, h5, h6⟩ := h
  refine ⟨h1, h3, h4, fun p p0 p1 => ?_⟩
  rw [u11]
  by_cases e : p = pc' - 1
  · rw [if_pos e, if_pos e]
  · rw [if_neg e, if_neg e]
    exact h5 p p0 (by omega)
theorem sZ_same {G : wk_M} {c pc pc' : Int} {a6 a7 a8 a9 a10 a11 b6 b7 b8 b9 b10 b11 : Int → Int} (h : sZ G c pc a6 a7 a8 a9 a10 a11) (ep : pc' = pc) (e6 : b6 = a6) (e7 : b7 = a7) (e8 : b8 = a8) (e9 : b9 = a9) (e10 : b10 = a10) (e11 : b11 = a11) : sZ G c pc' b6 b7 b8 b9 b10 b11 := by
  subst ep e6 e7 e8 e9 e10 e11
  exact h
theorem sZ_eq {G : wk_M} {c pc pc' : Int} {a6 a7 a8 a9 a10 a11 b6 b7 b8 b9 b10 b11 : Int → Int} (h : sZ G c pc a6 a7 a8 a9 a10 a11) (h' : sZ G c pc' b6 b7 b8 b9 b10 b11) : pc = pc' ∧ (∀ j, 0 ≤ j → j < c → a6 j = b6 j ∧ a7 j = b7 j ∧ a8 j = b8 j ∧ a9 j = b9 j) ∧ ∀ p, 0 ≤ p → p < pc → a10 p = b10 p ∧ a11 p = b11 p := by
  obtain ⟨h1, h2, h3, h4⟩ := h
  obtain ⟨g1, g2, g3, g4⟩ := h'
  have e : pc = pc' := h1.trans g1.symm
  subst e
  refine ⟨rfl, fun j j0 j1 => ?_, fun p p0 p1 => ?_⟩
  · obtain ⟨q6, q7, q8, q9⟩ := h2 j j0 j1
    obtain ⟨r6, r7, r8, r9⟩ := g2 j j0 j1
    exact ⟨q6.trans r6.symm, q7.trans r7.symm, q8.trans r8.symm, q9.trans r9.symm⟩
  · exact ⟨(h3 p p0 p1).trans (g3 p p0 p1).symm, (h4 p p0 p1).trans (g4 p p0 p1).symm⟩
theorem lyS_end {op : Int → Int} {c t v pc d : Int} {a6 a7 a8 a9 a10 a11 a12 : Int → Int} (h : sG (lyI op t.toNat) pc d a6 a7 a8 a9 a10 a11 a12 t) (hN : ∀ j, 0 ≤ j → j < t → ¬ lyB op (lyI op j.toNat) j) (ht : t = c) (hv : (v = c ∧ ¬ d = 0) ∨ (v = -1 ∧ d = 0)) : lyS op c v := by
  subst ht
  have h2 := h.1.2
  refine Or.inr ⟨hN, ?_⟩
  clear hN h
  omega
theorem lyS_at {op : Int → Int} {c t v : Int} (t0 : 0 ≤ t) (t1 : t < c) (hN : ∀ j, 0 ≤ j → j < t → ¬ lyB op (lyI op j.toNat) j) (hb : lyB op (lyI op t.toNat) t) (hv : v = t) : lyS op c v := by
  subst hv
  exact Or.inl ⟨⟨t0, t1⟩, hb, hN⟩
theorem lyC_s {op : Int → Int} {c v : Int} (h : lyS op c v) (hv : ¬ v = -1) : lyC op c v := ⟨v, h, Or.inl ⟨hv, rfl⟩⟩
theorem lyC_f {op : Int → Int} {c v pc : Int} (h : lyS op c (-1)) (e : pc = (lyI op c.toNat).1 1 (11 : Nat)) (hf : lyF op c pc v) : lyC op c v := ⟨-1, h, Or.inr ⟨rfl, by rw [← e]; exact hf⟩⟩
/-- the class's tables -/
def sR (G : wk_M) (f : Nat → Int → Int) (i : Int) : Prop := sG G (f 1 (11 : Nat)) (f 1 (13 : Nat)) (f 6) (f 7) (f 8) (f 9) (f 10) (f 11) (f 12) i
