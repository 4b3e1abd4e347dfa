/-! the class's layOut: a place at a time -/
theorem pl_28 {op : Int → Int} {G m m' : wk_M} {i x v : Int} {A : Prop} (hs : sR G m.1 i) (ho : op i = m.1 2 i) (hx : (m.1 1 (13 : Nat) = 0 ∧ x = -1) ∨ (0 < m.1 1 (13 : Nat) ∧ x = m.1 12 (m.1 1 (13 : Nat) - 1))) (o : m.1 2 i = 9 ∨ m.1 2 i = 11) (hv : (v = 0 ∧ (wk_u (wk_u (wk_u (wk_u m 9 i (m.1 1 (11 : Nat) - 1)) 6 i x) 7 i (-1)) 8 i (-1)).1 1 (13 : Nat) = 4) ∨ (v = 1 ∧ (¬ (wk_u (wk_u (wk_u (wk_u m 9 i (m.1 1 (11 : Nat) - 1)) 6 i x) 7 i (-1)) 8 i (-1)).1 1 (13 : Nat) = 4) ∧ m' = wk_u (wk_u (wk_u (wk_u (wk_u (wk_u m 9 i (m.1 1 (11 : Nat) - 1)) 6 i x) 7 i (-1)) 8 i (-1)) 12 ((wk_u (wk_u (wk_u (wk_u m 9 i (m.1 1 (11 : Nat) - 1)) 6 i x) 7 i (-1)) 8 i (-1)).1 1 (13 : Nat)) i) 1 (13 : Nat) ((wk_u (wk_u (wk_u (wk_u m 9 i (m.1 1 (11 : Nat) - 1)) 6 i x) 7 i (-1)) 8 i (-1)).1 1 (13 : Nat) + 1) ∧ A)) : (v = 0 ∧ lyB op G i) ∨ (v = 1 ∧ ¬ lyB op G i ∧ sR (lyG op G i) m'.1 (i + 1) ∧ A) := by
  have e13 : (wk_u (wk_u (wk_u (wk_u m 9 i (m.1 1 (11 : Nat) - 1)) 6 i x) 7 i (-1)) 8 i (-1)).1 1 (13 : Nat) = m.1 1 (13 : Nat) := by simp (decide := true) only [wk_u_at, wk_ul_1, and_self, and_true, true_and, and_false, false_and, if_true, if_false]
  rw [e13] at hv
  have hT := lyT_eq hs hx
  rcases hv with ⟨a, b⟩ | ⟨a, b, c, d⟩
  · exact Or.inl ⟨a, lb_open hs (by omega) b⟩
  · have z := ly_open (op := op) (pc' := m'.1 1 (11 : Nat)) (d' := m'.1 1 (13 : Nat)) (b6 := m'.1 6) (b7 := m'.1 7) (b8 := m'.1 8) (b9 := m'.1 9) (b10 := m'.1 10) (b11 := m'.1 11) (b12 := m'.1 12) hs hT (by omega) b (by rw [c]; simp (decide := true) only [wk_u_at, wk_ul_1, and_self, and_true, true_and, and_false, false_and, if_true, if_false]) (by rw [c]; simp (decide := true) only [wk_u_at, wk_ul_1, and_self, and_true, true_and, and_false, false_and, if_true, if_false]) (fun _ => by rw [c]; simp (decide := true) only [wk_u_at, wk_ul_1, and_self, and_true, true_and, and_false, false_and, if_true, if_false]) (fun _ => by rw [c]; simp (decide := true) only [wk_u_at, wk_ul_1, and_self, and_true, true_and, and_false, false_and, if_true, if_false]) (fun _ => by rw [c]; simp (decide := true) only [wk_u_at, wk_ul_1, and_self, and_true, true_and, and_false, false_and, if_true, if_false]) (fun _ => by rw [c]; simp (decide := true) only [wk_u_at, wk_ul_1, and_self, and_true, true_and, and_false, false_and, if_true, if_false]) (fun _ => by subst c; rfl) (fun _ => by subst c; rfl) (fun _ => by rw [c]; simp (decide := true) only [wk_u_at, wk_ul_1, and_self, and_true, true_and, and_false, false_and, if_true, if_false])
    exact Or.inr ⟨a, z.1, z.2, d⟩
theorem pl_29 {op : Int → Int} {G m m' : wk_M} {i x v : Int} {A : Prop} (hs : sR G m.1 i) (ho : op i = m.1 2 i) (hx : (m.1 1 (13 : Nat) = 0 ∧ x = -1) ∨ (0 < m.1 1 (13 : Nat) ∧ x = m.1 12 (m.1 1 (13 : Nat) - 1))) (o : m.1 2 i = 10) (hxi : 0 < m.1 1 (13 : Nat) → 0 ≤ x ∧ x < i) (d0 : 0 ≤ m.1 1 (13 : Nat)) (hox : ∀ j, 0 ≤ j → j < i → op j = m.1 2 j) (hv : (v = 0 ∧ (x = -1 ∨ ¬ (wk_u (wk_u (wk_u (wk_u m 9 i (m.1 1 (11 : Nat) - 1)) 6 i x) 7 i (-1)) 8 i (-1)).1 2 x = 9 ∨ ¬ (wk_u (wk_u (wk_u (wk_u m 9 i (m.1 1 (11 : Nat) - 1)) 6 i x) 7 i (-1)) 8 i (-1)).1 7 x = -1)) ∨ (v = 1 ∧ (¬ (x = -1 ∨ ¬ (wk_u (wk_u (wk_u (wk_u m 9 i (m.1 1 (11 : Nat) - 1)) 6 i x) 7 i (-1)) 8 i (-1)).1 2 x = 9 ∨ ¬ (wk_u (wk_u (wk_u (wk_u m 9 i (m.1 1 (11 : Nat) - 1)) 6 i x) 7 i (-1)) 8 i (-1)).1 7 x = -1)) ∧ m' = wk_u (wk_u (wk_u (wk_u (wk_u m 9 i (m.1 1 (11 : Nat) - 1)) 6 i x) 7 i (-1)) 8 i (-1)) 7 x i ∧ A)) : (v = 0 ∧ lyB op G i) ∨ (v = 1 ∧ ¬ lyB op G i ∧ sR (lyG op G i) m'.1 (i + 1) ∧ A) := by
  have e2 : (wk_u (wk_u (wk_u (wk_u m 9 i (m.1 1 (11 : Nat) - 1)) 6 i x) 7 i (-1)) 8 i (-1)).1 2 x = m.1 2 x := by simp (decide := true) only [wk_u_at, wk_ul_1, and_self, and_true, true_and, and_false, false_and, if_true, if_false]
  have e7 : x < i → (wk_u (wk_u (wk_u (wk_u m 9 i (m.1 1 (11 : Nat) - 1)) 6 i x) 7 i (-1)) 8 i (-1)).1 7 x = m.1 7 x := by
    intro q
    simp (decide := true) only [wk_u_at, wk_ul_1, and_self, and_true, true_and, and_false, false_and, if_true, if_false]
    exact if_neg (by omega)
  rw [e2] at hv
  have hT := lyT_eq hs hx
  by_cases hd : m.1 1 (13 : Nat) = 0
  · rcases hv with ⟨a, b⟩ | ⟨a, b, c, d⟩
    · exact Or.inl ⟨a, lb_else0 hs (by omega) hd⟩
    · exfalso
      omega
  · obtain ⟨x0, x1⟩ := hxi (by omega)
    rw [e7 x1] at hv
    have hq := hox x x0 x1
    rcases hv with ⟨a, b⟩ | ⟨a, b, c, d⟩
    · exact Or.inl ⟨a, lb_else1 hs hT (by omega) x0 x1 (by omega)⟩
    · have z := ly_else (op := op) (pc' := m'.1 1 (11 : Nat)) (d' := m'.1 1 (13 : Nat)) (b6 := m'.1 6) (b7 := m'.1 7) (b8 := m'.1 8) (b9 := m'.1 9) (b10 := m'.1 10) (b11 := m'.1 11) (b12 := m'.1 12) hs hT (by omega) x0 x1 (by omega) (by omega) hd (by rw [c]; simp (decide := true) only [wk_u_at, wk_ul_1, and_self, and_true, true_and, and_false, false_and, if_true, if_false]) (by rw [c]; simp (decide := true) only [wk_u_at, wk_ul_1, and_self, and_true, true_and, and_false, false_and, if_true, if_false]) (fun _ => by rw [c]; simp (decide := true) only [wk_u_at, wk_ul_1, and_self, and_true, true_and, and_false, false_and, if_true, if_false]) (fun _ => by rw [c]; simp (decide := true) only [wk_u_at, wk_ul_1, and_self, and_true, true_and, and_false, false_and, if_true, if_false]) (fun _ => by rw [c]; simp (decide := true) only [wk_u_at, wk_ul_1, and_self, and_true, true_and, and_false, false_and, if_true, if_false]) (fun _ => by rw [c]; simp (decide := true) only [wk_u_at, wk_ul_1, and_self, and_true, true_and, and_false, false_and, if_true, if_false]) (fun _ => by subst c; rfl) (fun _ => by subst c; rfl) (fun _ => by subst c; rfl)
      exact Or.inr ⟨a, z.1, z.2, d⟩
theorem pl_30 {op : Int → Int} {G m m' : wk_M} {i x v : Int} {A : Prop} (hs : sR G m.1 i) (ho : op i = m.1 2 i) (hx : (m.1 1 (13 : Nat) = 0 ∧ x = -1) ∨ (0 < m.1 1 (13 : Nat) ∧ x = m.1 12 (m.1 1 (13 : Nat) - 1))) (o : m.1 2 i = 12) (hxi : 0 < m.1 1 (13 : Nat) → 0 ≤ x ∧ x < i) (d0 : 0 ≤ m.1 1 (13 : Nat)) (hv : (v = 0 ∧ x = -1) ∨ (v = 1 ∧ (¬ x = -1) ∧ m' = wk_u (wk_u (wk_u (wk_u (wk_u (wk_u m 9 i (m.1 1 (11 : Nat) - 1)) 6 i x) 7 i (-1)) 8 i (-1)) 8 x i) 1 (13 : Nat) ((wk_u (wk_u (wk_u (wk_u m 9 i (m.1 1 (11 : Nat) - 1)) 6 i x) 7 i (-1)) 8 i (-1)).1 1 (13 : Nat) - 1) ∧ A)) : (v = 0 ∧ lyB op G i) ∨ (v = 1 ∧ ¬ lyB op G i ∧ sR (lyG op G i) m'.1 (i + 1) ∧ A) := by
  have e13 : (wk_u (wk_u (wk_u (wk_u m 9 i (m.1 1 (11 : Nat) - 1)) 6 i x) 7 i (-1)) 8 i (-1)).1 1 (13 : Nat) = m.1 1 (13 : Nat) := by simp (decide := true) only [wk_u_at, wk_ul_1, and_self, and_true, true_and, and_false, false_and, if_true, if_false]
  rw [e13] at hv
  have hT := lyT_eq hs hx
  rcases hv with ⟨a, b⟩ | ⟨a, b, c, d⟩
  · exact Or.inl ⟨a, lb_end hs (by omega) (by omega)⟩
  · have z := ly_end (op := op) (pc' := m'.1 1 (11 : Nat)) (d' := m'.1 1 (13 : Nat)) (b6 := m'.1 6) (b7 := m'.1 7) (b8 := m'.1 8) (b9 := m'.1 9) (b10 := m'.1 10) (b11 := m'.1 11) (b12 := m'.1 12) hs hT (by omega) (by omega) (by rw [c]; simp (decide := true) only [wk_u_at, wk_ul_1, and_self, and_true, true_and, and_false, false_and, if_true, if_false]) (by rw [c]; simp (decide := true) only [wk_u_at, wk_ul_1, and_self, and_true, true_and, and_false, false_and, if_true, if_false]) (fun _ => by rw [c]; simp (decide := true) only [wk_u_at, wk_ul_1, and_self, and_true, true_and, and_false, false_and, if_true, if_false]) (fun _ => by rw [c]; simp (decide := true) only [wk_u_at, wk_ul_1, and_self, and_true, true_and, and_false, false_and, if_true, if_false]) (fun _ => by rw [c]; simp (decide := true) only [wk_u_at, wk_ul_1, and_self, and_true, true_and, and_false, false_and, if_true, if_false]) (fun _ => by rw [c]; simp (decide := true) only [wk_u_at, wk_ul_1, and_self, and_true, true_and, and_false, false_and, if_true, if_false]) (fun _ => by subst c; rfl) (fun _ => by subst c; rfl) (fun _ => by subst c; rfl)
    exact Or.inr ⟨a, z.1, z.2, d⟩
theorem pl_31 {op : Int → Int} {G m m' : wk_M} {i x v : Int} {A : Prop} (hs : sR G m.1 i) (ho : op i = m.1 2 i) (hx : (m.1 1 (13 : Nat) = 0 ∧ x = -1) ∨ (0 < m.1 1 (13 : Nat) ∧ x = m.1 12 (m.1 1 (13 : Nat) - 1))) (o : m.1 2 i = 18) (d0 : 0 ≤ m.1 1 (13 : Nat)) (hv : (v = 0 ∧ (0 < (wk_u (wk_u (wk_u (wk_u m 9 i (m.1 1 (11 : Nat) - 1)) 6 i x) 7 i (-1)) 8 i (-1)).1 1 (13 : Nat) ∨ (wk_u (wk_u (wk_u (wk_u m 9 i (m.1 1 (11 : Nat) - 1)) 6 i x) 7 i (-1)) 8 i (-1)).1 1 (11 : Nat) = 4)) ∨ (v = 1 ∧ (¬ (0 < (wk_u (wk_u (wk_u (wk_u m 9 i (m.1 1 (11 : Nat) - 1)) 6 i x) 7 i (-1)) 8 i (-1)).1 1 (13 : Nat) ∨ (wk_u (wk_u (wk_u (wk_u m 9 i (m.1 1 (11 : Nat) - 1)) 6 i x) 7 i (-1)) 8 i (-1)).1 1 (11 : Nat) = 4)) ∧ m' = wk_u (wk_u (wk_u (wk_u (wk_u (wk_u (wk_u m 9 i (m.1 1 (11 : Nat) - 1)) 6 i x) 7 i (-1)) 8 i (-1)) 11 ((wk_u (wk_u (wk_u (wk_u m 9 i (m.1 1 (11 : Nat) - 1)) 6 i x) 7 i (-1)) 8 i (-1)).1 1 (11 : Nat) - 1) i) 10 ((wk_u (wk_u (wk_u (wk_u m 9 i (m.1 1 (11 : Nat) - 1)) 6 i x) 7 i (-1)) 8 i (-1)).1 1 (11 : Nat)) (i + 1)) 1 (11 : Nat) ((wk_u (wk_u (wk_u (wk_u m 9 i (m.1 1 (11 : Nat) - 1)) 6 i x) 7 i (-1)) 8 i (-1)).1 1 (11 : Nat) + 1) ∧ A)) : (v = 0 ∧ lyB op G i) ∨ (v = 1 ∧ ¬ lyB op G i ∧ sR (lyG op G i) m'.1 (i + 1) ∧ A) := by
  have e13 : (wk_u (wk_u (wk_u (wk_u m 9 i (m.1 1 (11 : Nat) - 1)) 6 i x) 7 i (-1)) 8 i (-1)).1 1 (13 : Nat) = m.1 1 (13 : Nat) := by simp (decide := true) only [wk_u_at, wk_ul_1, and_self, and_true, true_and, and_false, false_and, if_true, if_false]
  have e11 : (wk_u (wk_u (wk_u (wk_u m 9 i (m.1 1 (11 : Nat) - 1)) 6 i x) 7 i (-1)) 8 i (-1)).1 1 (11 : Nat) = m.1 1 (11 : Nat) := by simp (decide := true) only [wk_u_at, wk_ul_1, and_self, and_true, true_and, and_false, false_and, if_true, if_false]
  rw [e13, e11] at hv
  have hT := lyT_eq hs hx
  rcases hv with ⟨a, b⟩ | ⟨a, b, c, d⟩
  · exact Or.inl ⟨a, lb_proc hs (by omega) (by omega)⟩
  · have z := ly_proc (op := op) (pc' := m'.1 1 (11 : Nat)) (d' := m'.1 1 (13 : Nat)) (b6 := m'.1 6) (b7 := m'.1 7) (b8 := m'.1 8) (b9 := m'.1 9) (b10 := m'.1 10) (b11 := m'.1 11) (b12 := m'.1 12) hs hT (by omega) (by omega) (by omega) (by rw [c]; simp (decide := true) only [wk_u_at, wk_ul_1, and_self, and_true, true_and, and_false, false_and, if_true, if_false]) (by rw [c]; simp (decide := true) only [wk_u_at, wk_ul_1, and_self, and_true, true_and, and_false, false_and, if_true, if_false]) (fun _ => by rw [c]; simp (decide := true) only [wk_u_at, wk_ul_1, and_self, and_true, true_and, and_false, false_and, if_true, if_false]) (fun _ => by rw [c]; simp (decide := true) only [wk_u_at, wk_ul_1, and_self, and_true, true_and, and_false, false_and, if_true, if_false]) (fun _ => by rw [c]; simp (decide := true) only [wk_u_at, wk_ul_1, and_self, and_true, true_and, and_false, false_and, if_true, if_false]) (fun _ => by rw [c]; simp (decide := true) only [wk_u_at, wk_ul_1, and_self, and_true, true_and, and_false, false_and, if_true, if_false]) (fun _ => by rw [c]; simp (decide := true) only [wk_u_at, wk_ul_1, and_self, and_true, true_and, and_false, false_and, if_true, if_false]) (fun _ => by rw [c]; simp (decide := true) only [wk_u_at, wk_ul_1, and_self, and_true, true_and, and_false, false_and, if_true, if_false]) (fun _ => by subst c; rfl)
    exact Or.inr ⟨a, z.1, z.2, d⟩
theorem pl_27 {op : Int → Int} {G m m' : wk_M} {i x : Int} {A : Prop} (hs : sR G m.1 i) (ho : op i = m.1 2 i) (hx : (m.1 1 (13 : Nat) = 0 ∧ x = -1) ∨ (0 < m.1 1 (13 : Nat) ∧ x = m.1 12 (m.1 1 (13 : Nat) - 1))) (o : ¬ m.1 2 i = 9 ∧ ¬ m.1 2 i = 10 ∧ ¬ m.1 2 i = 11 ∧ ¬ m.1 2 i = 12 ∧ ¬ m.1 2 i = 18) (c : m' = (wk_u (wk_u (wk_u (wk_u m 9 i (m.1 1 (11 : Nat) - 1)) 6 i x) 7 i (-1)) 8 i (-1))) (hA : A) : ¬ lyB op G i ∧ sR (lyG op G i) m'.1 (i + 1) ∧ A := by
  have hT := lyT_eq hs hx
  have z := ly_plain (op := op) (pc' := m'.1 1 (11 : Nat)) (d' := m'.1 1 (13 : Nat)) (b6 := m'.1 6) (b7 := m'.1 7) (b8 := m'.1 8) (b9 := m'.1 9) (b10 := m'.1 10) (b11 := m'.1 11) (b12 := m'.1 12) hs hT (by omega) (by rw [c]; simp (decide := true) only [wk_u_at, wk_ul_1, and_self, and_true, true_and, and_false, false_and, if_true, if_false]) (by rw [c]; simp (decide := true) only [wk_u_at, wk_ul_1, and_self, and_true, true_and, and_false, false_and, if_true, if_false]) (fun _ => by rw [c]; simp (decide := true) only [wk_u_at, wk_ul_1, and_self, and_true, true_and, and_false, false_and, if_true, if_false]) (fun _ => by rw [c]; simp (decide := true) only [wk_u_at, wk_ul_1, and_self, and_true, true_and, and_false, false_and, if_true, if_false]) (fun _ => by rw [c]; simp (decide := true) only [wk_u_at, wk_ul_1, and_self, and_true, true_and, and_false, false_and, if_true, if_false]) (fun _ => by rw [c]; simp (decide := true) only [wk_u_at, wk_ul_1, and_self, and_true, true_and, and_false, false_and, if_true, if_false]) (fun _ => by subst c; rfl) (fun _ => by subst c; rfl) (fun _ => by subst c; rfl)
  exact ⟨z.1, z.2, hA⟩

set_option maxHeartbeats 8000000 in
set_option maxRecDepth 20000 in
theorem k28 {Z : sm_Z} (hZ : Z.2.2.2 = tb_N) (m : wk_M) (i : Int) (i0 : 0 ≤ i) (i1 : i ≤ 31) (h : LI m.1 i) (hk : LK m.1 i) (o : m.1 2 i = 9 ∨ m.1 2 i = 11) (e7 : m.1 7 i = -1) : wC Z 1 28 [1, 12] [.inr (.inl 1), .inl i] m (fun r m' => ∃ v : Int, r = some (.inl v) ∧ ((v = 0 ∧ m.1 1 (13 : Nat) = 4) ∨ (v = 1 ∧ (¬ m.1 1 (13 : Nat) = 4) ∧ m' = wk_u (wk_u m 12 (m.1 1 (13 : Nat)) i) 1 (13 : Nat) (m.1 1 (13 : Nat) + 1) ∧ LI m'.1 (i + 1) ∧ LK m'.1 (i + 1))) ∧ m'.1 1 (4 : Nat) = m.1 1 (4 : Nat)) := by
  refine wC.gen fun Q hQ => wk_E hZ (by exact rfl) [] rfl (fun _ _ => trivial) fun hr hs => ?_
  have e1 : ab_lo = -2147483648 := rfl
  have e2 : ab_hi = 2147483647 := rfl
  have hd := h.2.2.2.2.1.1
  repeat' first | refine And.intro ?_ ?_ | intro _ | refine Or.inl ⟨by omega, by omega, ?_⟩ | refine Or.inr ?_ | exact trivial
  all_goals first
    | omega
    | exact hQ _ _ ⟨_, rfl, Or.inl ⟨rfl, by omega⟩, rfl⟩
    | exact hQ _ _ ⟨_, rfl, Or.inr ⟨rfl, by omega, rfl, LI_open h o e7 (by omega), LK_same (f := m.1) rfl rfl (LK_ne hk (by omega))⟩, by simp (decide := true) only [wk_u_at, wk_ul_1, and_self, and_true, true_and, and_false, false_and, if_true, if_false]⟩

set_option maxHeartbeats 8000000 in
set_option maxRecDepth 20000 in
theorem k29 {Z : sm_Z} (hZ : Z.2.2.2 = tb_N) (m : wk_M) (i : Int) (i0 : 0 ≤ i) (i1 : i ≤ 31) (h : LI m.1 i) (hk : LK m.1 i) (o : m.1 2 i = 10) (x : Int) (ex : x = m.1 6 i) (hx : (m.1 1 (13 : Nat) = 0 ∧ x = -1) ∨ (0 < m.1 1 (13 : Nat) ∧ x = m.1 12 (m.1 1 (13 : Nat) - 1))) : wC Z 1 29 [7] [.inr (.inl 1), .inl i, .inl x] m (fun r m' => ∃ v : Int, r = some (.inl v) ∧ ((v = 0 ∧ (x = -1 ∨ ¬ m.1 2 x = 9 ∨ ¬ m.1 7 x = -1)) ∨ (v = 1 ∧ (¬ (x = -1 ∨ ¬ m.1 2 x = 9 ∨ ¬ m.1 7 x = -1)) ∧ m' = wk_u m 7 x i ∧ LI m'.1 (i + 1) ∧ LK m'.1 (i + 1))) ∧ m'.1 1 (4 : Nat) = m.1 1 (4 : Nat)) := by
  refine wC.gen fun Q hQ => wk_E hZ (by exact rfl) [] rfl (fun _ _ => trivial) fun hr hs => ?_
  have e1 : ab_lo = -2147483648 := rfl
  have e2 : ab_hi = 2147483647 := rfl
  have hd := h.2.2.2.2.1
  have hq := hd.2 (m.1 1 (13 : Nat) - 1)
  have hF := LI_first h
  repeat' first | refine And.intro ?_ ?_ | intro _ | refine Or.inl ⟨by omega, by omega, ?_⟩ | refine Or.inr ?_ | exact trivial
  all_goals first
    | omega
    | exact hQ _ _ ⟨_, rfl, Or.inl ⟨rfl, by omega⟩, rfl⟩
    | (subst ex; exact hQ _ _ ⟨_, rfl, Or.inr ⟨rfl, by omega, rfl, LI_else h o (by omega) (by omega), LK_same (f := m.1) rfl rfl (LK_in hk (by omega))⟩, by simp (decide := true) only [wk_u_at, wk_ul_1, and_self, and_true, true_and, and_false, false_and, if_true, if_false]⟩)

set_option maxHeartbeats 8000000 in
set_option maxRecDepth 20000 in
theorem k30 {Z : sm_Z} (hZ : Z.2.2.2 = tb_N) (m : wk_M) (i : Int) (i0 : 0 ≤ i) (i1 : i ≤ 31) (h : LI m.1 i) (hk : LK m.1 i) (o : m.1 2 i = 12) (x : Int) (ex : x = m.1 6 i) (hx : (m.1 1 (13 : Nat) = 0 ∧ x = -1) ∨ (0 < m.1 1 (13 : Nat) ∧ x = m.1 12 (m.1 1 (13 : Nat) - 1))) : wC Z 1 30 [1, 8] [.inr (.inl 1), .inl i, .inl x] m (fun r m' => ∃ v : Int, r = some (.inl v) ∧ ((v = 0 ∧ x = -1) ∨ (v = 1 ∧ (¬ x = -1) ∧ m' = wk_u (wk_u m 8 x i) 1 (13 : Nat) (m.1 1 (13 : Nat) - 1) ∧ LI m'.1 (i + 1) ∧ LK m'.1 (i + 1))) ∧ m'.1 1 (4 : Nat) = m.1 1 (4 : Nat)) := by
  refine wC.gen fun Q hQ => wk_E hZ (by exact rfl) [] rfl (fun _ _ => trivial) fun hr hs => ?_
  have e1 : ab_lo = -2147483648 := rfl
  have e2 : ab_hi = 2147483647 := rfl
  have hd := h.2.2.2.2.1
  have hq := hd.2 (m.1 1 (13 : Nat) - 1)
  have hF := LI_first h
  repeat' first | refine And.intro ?_ ?_ | intro _ | refine Or.inl ⟨by omega, by omega, ?_⟩ | refine Or.inr ?_ | exact trivial
  all_goals first
    | omega
    | exact hQ _ _ ⟨_, rfl, Or.inl ⟨rfl, by omega⟩, rfl⟩
    | (subst ex; exact hQ _ _ ⟨_, rfl, Or.inr ⟨rfl, by omega, rfl, LI_end h o (by omega) (by omega), LK_same (f := m.1) rfl rfl (LK_in hk (by omega))⟩, by simp (decide := true) only [wk_u_at, wk_ul_1, and_self, and_true, true_and, and_false, false_and, if_true, if_false]⟩)

set_option maxHeartbeats 8000000 in
set_option maxRecDepth 20000 in
theorem k31 {Z : sm_Z} (hZ : Z.2.2.2 = tb_N) (m : wk_M) (i : Int) (i0 : 0 ≤ i) (i1 : i ≤ 31) (h : LI m.1 i) (hk : LK m.1 i) (o : m.1 2 i = 18) : wC Z 1 31 [1, 10, 11] [.inr (.inl 1), .inl i] m (fun r m' => ∃ v : Int, r = some (.inl v) ∧ ((v = 0 ∧ (0 < m.1 1 (13 : Nat) ∨ m.1 1 (11 : Nat) = 4)) ∨ (v = 1 ∧ (¬ (0 < m.1 1 (13 : Nat) ∨ m.1 1 (11 : Nat) = 4)) ∧ m' = wk_u (wk_u (wk_u m 11 (m.1 1 (11 : Nat) - 1) i) 10 (m.1 1 (11 : Nat)) (i + 1)) 1 (11 : Nat) (m.1 1 (11 : Nat) + 1) ∧ LI m'.1 (i + 1) ∧ LK m'.1 (i + 1))) ∧ m'.1 1 (4 : Nat) = m.1 1 (4 : Nat)) := by
  refine wC.gen fun Q hQ => wk_E hZ (by exact rfl) [] rfl (fun _ _ => trivial) fun hr hs => ?_
  have e1 : ab_lo = -2147483648 := rfl
  have e2 : ab_hi = 2147483647 := rfl
  have hd := h.2.2.2.2.1.1
  have hp := h.1.1
  repeat' first | refine And.intro ?_ ?_ | intro _ | refine Or.inl ⟨by omega, by omega, ?_⟩ | refine Or.inr ?_ | exact trivial
  all_goals first
    | omega
    | exact hQ _ _ ⟨_, rfl, Or.inl ⟨rfl, by omega⟩, rfl⟩
    | exact hQ _ _ ⟨_, rfl, Or.inr ⟨rfl, by omega, rfl, LI_proc h (by omega) (by omega), LK_same (f := m.1) rfl rfl (LK_ne hk (by omega))⟩, by simp (decide := true) only [wk_u_at, wk_ul_1, and_self, and_true, true_and, and_false, false_and, if_true, if_false]⟩

set_option maxHeartbeats 8000000 in
set_option maxRecDepth 20000 in
theorem k27 {Z : sm_Z} (hZ : Z.2.2.2 = tb_N) (m : wk_M) (i : Int) (i0 : 0 ≤ i) (i1 : i ≤ 31) (h : LI m.1 i) (hk : LK m.1 i) (op : Int → Int) (G : wk_M) (ho : op i = m.1 2 i) (hox : ∀ j, 0 ≤ j → j < i → op j = m.1 2 j) (hG : sR G m.1 i) : wC Z 2 27 [1, 6, 7, 8, 9, 10, 11, 12] [.inr (.inl 1), .inl i] m (fun r m' => ∃ v : Int, r = some (.inl v) ∧ ((v = 0 ∧ lyB op G i) ∨ (v = 1 ∧ ¬ lyB op G i ∧ sR (lyG op G i) m'.1 (i + 1) ∧ LI m'.1 (i + 1) ∧ LK m'.1 (i + 1))) ∧ m'.1 1 (4 : Nat) = m.1 1 (4 : Nat)) := by
  refine wC.gen fun Q hQ => wk_E hZ (by exact rfl) [] rfl (fun _ _ => trivial) fun hr hs => ?_
  have e1 : ab_lo = -2147483648 := rfl
  have e2 : ab_hi = 2147483647 := rfl
  have hd := h.2.2.2.2.1
  have hq := hd.2 (m.1 1 (13 : Nat) - 1)
  have hF := LI_first h
  have hp := h.1.1
  repeat' first | (intro h; exact absurd h (by decide)) | (intro h; exact absurd rfl h) | refine And.intro ?_ ?_ | intro _ | refine Or.inl ⟨by omega, by omega, ?_⟩ | refine Or.inr ?_ | exact trivial | (refine wk_use (k28 hZ _ _ i0 i1 (LI_pre h) (LK_pre hk) (by simp (decide := true) only [wk_u_at, wk_ul_1, and_self, and_true, true_and, and_false, false_and, if_true, if_false] <;> omega) (by simp (decide := true) only [wk_u_at, wk_ul_1, and_self, and_true, true_and, and_false, false_and, if_true, if_false] <;> omega)) rfl rfl ?_; rintro - _ _ - hfr - ⟨v, rfl, hv, hc⟩; simp (decide := true) only [wk_u_at, wk_ul_1, and_self, and_true, true_and, and_false, false_and, if_true, if_false] at hc; have h28 := hv; refine Or.inr ?_) | (refine wk_use (k29 hZ _ _ i0 i1 (LI_pre h) (LK_pre hk) (by simp (decide := true) only [wk_u_at, wk_ul_1, and_self, and_true, true_and, and_false, false_and, if_true, if_false] <;> omega) _ (by simp (decide := true) only [wk_u_at, wk_ul_1, and_self, and_true, true_and, and_false, false_and, if_true, if_false] <;> omega) (by simp (decide := true) only [wk_u_at, wk_ul_1, and_self, and_true, true_and, and_false, false_and, if_true, if_false] <;> omega)) rfl rfl ?_; rintro - _ _ - hfr - ⟨v, rfl, hv, hc⟩; simp (decide := true) only [wk_u_at, wk_ul_1, and_self, and_true, true_and, and_false, false_and, if_true, if_false] at hc; have h29 := hv; refine Or.inr ?_) | (refine wk_use (k30 hZ _ _ i0 i1 (LI_pre h) (LK_pre hk) (by simp (decide := true) only [wk_u_at, wk_ul_1, and_self, and_true, true_and, and_false, false_and, if_true, if_false] <;> omega) _ (by simp (decide := true) only [wk_u_at, wk_ul_1, and_self, and_true, true_and, and_false, false_and, if_true, if_false] <;> omega) (by simp (decide := true) only [wk_u_at, wk_ul_1, and_self, and_true, true_and, and_false, false_and, if_true, if_false] <;> omega)) rfl rfl ?_; rintro - _ _ - hfr - ⟨v, rfl, hv, hc⟩; simp (decide := true) only [wk_u_at, wk_ul_1, and_self, and_true, true_and, and_false, false_and, if_true, if_false] at hc; have h30 := hv; refine Or.inr ?_) | (refine wk_use (k31 hZ _ _ i0 i1 (LI_pre h) (LK_pre hk) (by simp (decide := true) only [wk_u_at, wk_ul_1, and_self, and_true, true_and, and_false, false_and, if_true, if_false] <;> omega)) rfl rfl ?_; rintro - _ _ - hfr - ⟨v, rfl, hv, hc⟩; simp (decide := true) only [wk_u_at, wk_ul_1, and_self, and_true, true_and, and_false, false_and, if_true, if_false] at hc; have h31 := hv; refine Or.inr ?_)
  all_goals first
    | omega
    | exact hQ _ _ ⟨_, rfl, pl_28 hG ho (by omega) (by omega) h28, hc⟩
    | exact hQ _ _ ⟨_, rfl, pl_29 hG ho (by omega) (by omega) (by omega) (by omega) hox h29, hc⟩
    | exact hQ _ _ ⟨_, rfl, pl_30 hG ho (by omega) (by omega) (by omega) (by omega) h30, hc⟩
    | exact hQ _ _ ⟨_, rfl, pl_31 hG ho (by omega) (by omega) (by omega) h31, hc⟩
    | exact hQ _ _ ⟨_, rfl, Or.inr ⟨rfl, pl_27 hG ho (by omega) (by omega) rfl ⟨LI_plain (LI_pre h) (by simp (decide := true) only [wk_u_at, wk_ul_1, and_self, and_true, true_and, and_false, false_and, if_true, if_false] <;> omega), LK_ne (LK_pre hk) (by simp (decide := true) only [wk_u_at, wk_ul_1, and_self, and_true, true_and, and_false, false_and, if_true, if_false] <;> omega)⟩⟩, by simp (decide := true) only [wk_u_at, wk_ul_1, and_self, and_true, true_and, and_false, false_and, if_true, if_false]⟩
