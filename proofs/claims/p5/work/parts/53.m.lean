/-! the class's layOut -/
set_option maxRecDepth 20000 in
theorem k28 {Z : sm_Z} (hZ : Z.2.2.2 = tb_N) (m : wk_M) (i : Int) (i0 : 0 ≤ i) (i1 : i ≤ 31) (h : LI m.1 i) (hk : LK m.1 i) (o : m.1 2 i = 9 ∨ m.1 2 i = 11) (e7 : m.1 7 i = -1) : wC Z 1 28 [1, 12] [.inr (.inl 1), .inl i] m (fun r m' => ∃ v : Int, r = some (.inl v) ∧ (v = 0 ∨ (v = 1 ∧ LI m'.1 (i + 1) ∧ LK m'.1 (i + 1))) ∧ m'.1 1 (4 : Nat) = m.1 1 (4 : Nat)) := by
  refine wC.gen fun Q hQ => wk_E hZ (by exact rfl) [] rfl (fun _ _ => trivial) fun hr hs => ?_
  have e1 : ab_lo = -2147483648 := rfl
  have e2 : ab_hi = 2147483647 := rfl
  have hd := h.2.2.2.2.1.1
  repeat' first | refine And.intro ?_ ?_ | intro _ | refine Or.inl ⟨by omega, by omega, ?_⟩ | refine Or.inr ?_ | exact trivial
  all_goals first
    | omega
    | exact hQ _ _ ⟨_, rfl, Or.inl rfl, rfl⟩
    | exact hQ _ _ ⟨_, rfl, Or.inr ⟨rfl, LI_open h o e7 (by omega), LK_same (f := m.1) rfl rfl (LK_ne hk (by omega))⟩, by simp (decide := true) only [wk_u_at, wk_ul_1, and_self, and_true, true_and, and_false, false_and, if_true, if_false]⟩

set_option maxRecDepth 20000 in
theorem k29 {Z : sm_Z} (hZ : Z.2.2.2 = tb_N) (m : wk_M) (i : Int) (i0 : 0 ≤ i) (i1 : i ≤ 31) (h : LI m.1 i) (hk : LK m.1 i) (o : m.1 2 i = 10) (x : Int) (ex : x = m.1 6 i) (hx : (m.1 1 (13 : Nat) = 0 ∧ x = -1) ∨ (0 < m.1 1 (13 : Nat) ∧ x = m.1 12 (m.1 1 (13 : Nat) - 1))) : wC Z 1 29 [7] [.inr (.inl 1), .inl i, .inl x] m (fun r m' => ∃ v : Int, r = some (.inl v) ∧ (v = 0 ∨ (v = 1 ∧ LI m'.1 (i + 1) ∧ LK m'.1 (i + 1))) ∧ m'.1 1 (4 : Nat) = m.1 1 (4 : Nat)) := by
  refine wC.gen fun Q hQ => wk_E hZ (by exact rfl) [] rfl (fun _ _ => trivial) fun hr hs => ?_
  have e1 : ab_lo = -2147483648 := rfl
  have e2 : ab_hi = 2147483647 := rfl
  have hd := h.2.2.2.2.1
  have hq := hd.2 (m.1 1 (13 : Nat) - 1)
  have hF := LI_first h
  repeat' first | refine And.intro ?_ ?_ | intro _ | refine Or.inl ⟨by omega, by omega, ?_⟩ | refine Or.inr ?_ | exact trivial
  all_goals first
    | omega
    | exact hQ _ _ ⟨_, rfl, Or.inl rfl, rfl⟩
    | (subst ex; exact hQ _ _ ⟨_, rfl, Or.inr ⟨rfl, LI_else h o (by omega) (by omega), LK_same (f := m.1) rfl rfl (LK_in hk (by omega))⟩, by simp (decide := true) only [wk_u_at, wk_ul_1, and_self, and_true, true_and, and_false, false_and, if_true, if_false]⟩)

set_option maxRecDepth 20000 in
theorem k30 {Z : sm_Z} (hZ : Z.2.2.2 = tb_N) (m : wk_M) (i : Int) (i0 : 0 ≤ i) (i1 : i ≤ 31) (h : LI m.1 i) (hk : LK m.1 i) (o : m.1 2 i = 12) (x : Int) (ex : x = m.1 6 i) (hx : (m.1 1 (13 : Nat) = 0 ∧ x = -1) ∨ (0 < m.1 1 (13 : Nat) ∧ x = m.1 12 (m.1 1 (13 : Nat) - 1))) : wC Z 1 30 [1, 8] [.inr (.inl 1), .inl i, .inl x] m (fun r m' => ∃ v : Int, r = some (.inl v) ∧ (v = 0 ∨ (v = 1 ∧ LI m'.1 (i + 1) ∧ LK m'.1 (i + 1))) ∧ m'.1 1 (4 : Nat) = m.1 1 (4 : Nat)) := by
  refine wC.gen fun Q hQ => wk_E hZ (by exact rfl) [] rfl (fun _ _ => trivial) fun hr hs => ?_
  have e1 : ab_lo = -2147483648 := rfl
  have e2 : ab_hi = 2147483647 := rfl
  have hd := h.2.2.2.2.1
  have hq := hd.2 (m.1 1 (13 : Nat) - 1)
  have hF := LI_first h
  repeat' first | refine And.intro ?_ ?_ | intro _ | refine Or.inl ⟨by omega, by omega, ?_⟩ | refine Or.inr ?_ | exact trivial
  all_goals first
    | omega
    | exact hQ _ _ ⟨_, rfl, Or.inl rfl, rfl⟩
    | (subst ex; exact hQ _ _ ⟨_, rfl, Or.inr ⟨rfl, LI_end h o (by omega) (by omega), LK_same (f := m.1) rfl rfl (LK_in hk (by omega))⟩, by simp (decide := true) only [wk_u_at, wk_ul_1, and_self, and_true, true_and, and_false, false_and, if_true, if_false]⟩)

set_option maxRecDepth 20000 in
theorem k31 {Z : sm_Z} (hZ : Z.2.2.2 = tb_N) (m : wk_M) (i : Int) (i0 : 0 ≤ i) (i1 : i ≤ 31) (h : LI m.1 i) (hk : LK m.1 i) (o : m.1 2 i = 18) : wC Z 1 31 [1, 10, 11] [.inr (.inl 1), .inl i] m (fun r m' => ∃ v : Int, r = some (.inl v) ∧ (v = 0 ∨ (v = 1 ∧ LI m'.1 (i + 1) ∧ LK m'.1 (i + 1))) ∧ m'.1 1 (4 : Nat) = m.1 1 (4 : Nat)) := by
  refine wC.gen fun Q hQ => wk_E hZ (by exact rfl) [] rfl (fun _ _ => trivial) fun hr hs => ?_
  have e1 : ab_lo = -2147483648 := rfl
  have e2 : ab_hi = 2147483647 := rfl
  have hd := h.2.2.2.2.1.1
  have hp := h.1.1
  repeat' first | refine And.intro ?_ ?_ | intro _ | refine Or.inl ⟨by omega, by omega, ?_⟩ | refine Or.inr ?_ | exact trivial
  all_goals first
    | omega
    | exact hQ _ _ ⟨_, rfl, Or.inl rfl, rfl⟩
    | exact hQ _ _ ⟨_, rfl, Or.inr ⟨rfl, LI_proc h (by omega) (by omega), LK_same (f := m.1) rfl rfl (LK_ne hk (by omega))⟩, by simp (decide := true) only [wk_u_at, wk_ul_1, and_self, and_true, true_and, and_false, false_and, if_true, if_false]⟩

set_option maxRecDepth 20000 in
theorem k27 {Z : sm_Z} (hZ : Z.2.2.2 = tb_N) (m : wk_M) (i : Int) (i0 : 0 ≤ i) (i1 : i ≤ 31) (h : LI m.1 i) (hk : LK m.1 i) : wC Z 2 27 [1, 6, 7, 8, 9, 10, 11, 12] [.inr (.inl 1), .inl i] m (fun r m' => ∃ v : Int, r = some (.inl v) ∧ (v = 0 ∨ (v = 1 ∧ LI m'.1 (i + 1) ∧ LK m'.1 (i + 1))) ∧ m'.1 1 (4 : Nat) = m.1 1 (4 : Nat)) := by
  refine wC.gen fun Q hQ => wk_E hZ (by exact rfl) [] rfl (fun _ _ => trivial) fun hr hs => ?_
  have e1 : ab_lo = -2147483648 := rfl
  have e2 : ab_hi = 2147483647 := rfl
  have hd := h.2.2.2.2.1
  have hq := hd.2 (m.1 1 (13 : Nat) - 1)
  have hF := LI_first h
  have hp := h.1.1
  repeat' first | (intro h; exact absurd h (by decide)) | (intro h; exact absurd rfl h) | refine And.intro ?_ ?_ | intro _ | refine Or.inl ⟨by omega, by omega, ?_⟩ | refine Or.inr ?_ | exact trivial | (refine wk_use (k28 hZ _ _ i0 i1 (LI_pre h) (LK_pre hk) (by simp (decide := true) only [wk_u_at, wk_ul_1, and_self, and_true, true_and, and_false, false_and, if_true, if_false] <;> omega) (by simp (decide := true) only [wk_u_at, wk_ul_1, and_self, and_true, true_and, and_false, false_and, if_true, if_false] <;> omega)) rfl rfl ?_; rintro - _ _ - hfr - ⟨v, rfl, hv, hc⟩; simp (decide := true) only [wk_u_at, wk_ul_1, and_self, and_true, true_and, and_false, false_and, if_true, if_false] at hc; refine Or.inr ?_) | (refine wk_use (k29 hZ _ _ i0 i1 (LI_pre h) (LK_pre hk) (by simp (decide := true) only [wk_u_at, wk_ul_1, and_self, and_true, true_and, and_false, false_and, if_true, if_false] <;> omega) _ (by simp (decide := true) only [wk_u_at, wk_ul_1, and_self, and_true, true_and, and_false, false_and, if_true, if_false] <;> omega) (by simp (decide := true) only [wk_u_at, wk_ul_1, and_self, and_true, true_and, and_false, false_and, if_true, if_false] <;> omega)) rfl rfl ?_; rintro - _ _ - hfr - ⟨v, rfl, hv, hc⟩; simp (decide := true) only [wk_u_at, wk_ul_1, and_self, and_true, true_and, and_false, false_and, if_true, if_false] at hc; refine Or.inr ?_) | (refine wk_use (k30 hZ _ _ i0 i1 (LI_pre h) (LK_pre hk) (by simp (decide := true) only [wk_u_at, wk_ul_1, and_self, and_true, true_and, and_false, false_and, if_true, if_false] <;> omega) _ (by simp (decide := true) only [wk_u_at, wk_ul_1, and_self, and_true, true_and, and_false, false_and, if_true, if_false] <;> omega) (by simp (decide := true) only [wk_u_at, wk_ul_1, and_self, and_true, true_and, and_false, false_and, if_true, if_false] <;> omega)) rfl rfl ?_; rintro - _ _ - hfr - ⟨v, rfl, hv, hc⟩; simp (decide := true) only [wk_u_at, wk_ul_1, and_self, and_true, true_and, and_false, false_and, if_true, if_false] at hc; refine Or.inr ?_) | (refine wk_use (k31 hZ _ _ i0 i1 (LI_pre h) (LK_pre hk) (by simp (decide := true) only [wk_u_at, wk_ul_1, and_self, and_true, true_and, and_false, false_and, if_true, if_false] <;> omega)) rfl rfl ?_; rintro - _ _ - hfr - ⟨v, rfl, hv, hc⟩; simp (decide := true) only [wk_u_at, wk_ul_1, and_self, and_true, true_and, and_false, false_and, if_true, if_false] at hc; refine Or.inr ?_)
  all_goals first
    | omega
    | exact hQ _ _ ⟨_, rfl, hv, hc⟩
    | exact hQ _ _ ⟨_, rfl, Or.inr ⟨rfl, LI_plain (LI_pre h) (by simp (decide := true) only [wk_u_at, wk_ul_1, and_self, and_true, true_and, and_false, false_and, if_true, if_false] <;> omega), LK_ne (LK_pre hk) (by simp (decide := true) only [wk_u_at, wk_ul_1, and_self, and_true, true_and, and_false, false_and, if_true, if_false] <;> omega)⟩, by simp (decide := true) only [wk_u_at, wk_ul_1, and_self, and_true, true_and, and_false, false_and, if_true, if_false]⟩
