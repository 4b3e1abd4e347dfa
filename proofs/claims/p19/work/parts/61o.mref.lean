/-! contracts over ranges of the reference, as contracts here -/
theorem mo_at1 {Z : sm_Z} (hZ : Z.2.2.2 = tb_N) (i : Nat) {x : ab_C × ab_N} (h : mo_ref1[i]? = some x) : ab_ok tb_cl Z tb_ys tb_ws rG x.1 := ab_all_ok hZ (fun _ he => absurd he List.not_mem_nil) mo_ref1_ok x (List.mem_of_getElem? h)
theorem k173s {Z : sm_Z} (hZ : Z.2.2.2 = tb_N) (m : wk_M) (a : Int) (a0 : 0 ≤ a) (a1 : a ≤ 0) (b : Int) (b0 : 0 ≤ b) (b1 : b ≤ 251) : wC Z 1 173 [] [.inr (.inl 63), .inl a, .inl b] m (fun r m' => ∃ v : Int, r = some (.inl v) ∧ m' = m ∧ (0 ≤ v ∧ v ≤ 1)) := by
  have h := mo_at1 hZ 16 rfl
  exact wk_pI (wk_ab (As := [.inr (.inl 63), .inl a, .inl b]) h m ⟨rfl, ⟨a0, a1⟩, ⟨b0, b1⟩, trivial⟩)
theorem k173l {Z : sm_Z} (hZ : Z.2.2.2 = tb_N) (m : wk_M) (a : Int) (a0 : 0 ≤ a) (a1 : a ≤ 0) (b : Int) (b0 : 0 ≤ b) (b1 : b ≤ 251) : wC Z 1 173 [] [.inr (.inl 64), .inl a, .inl b] m (fun r m' => ∃ v : Int, r = some (.inl v) ∧ m' = m ∧ (0 ≤ v ∧ v ≤ 1)) := by
  have h := mo_at1 hZ 17 rfl
  exact wk_pI (wk_ab (As := [.inr (.inl 64), .inl a, .inl b]) h m ⟨rfl, ⟨a0, a1⟩, ⟨b0, b1⟩, trivial⟩)
theorem k171 {Z : sm_Z} (hZ : Z.2.2.2 = tb_N) (m : wk_M) (a : Int) (a0 : 0 ≤ a) (a1 : a ≤ 251) : wC Z 2 171 [63] [.inr (.inl 46), .inl a] m (fun r m' => r = none) := by
  have h := mo_at1 hZ 23 rfl
  exact wk_ab (As := [.inr (.inl 46), .inl a]) h m ⟨rfl, ⟨a0, a1⟩, trivial⟩
theorem k179 {Z : sm_Z} (hZ : Z.2.2.2 = tb_N) (m : wk_M)  : wC Z 2 179 [] [.inr (.inl 46), .inr (.inl 64)] m (fun r m' => ∃ v : Int, r = some (.inl v) ∧ m' = m ∧ (-2147483648 ≤ v ∧ v ≤ 2147483647)) := by
  have h := mo_at1 hZ 24 rfl
  exact wk_pI (wk_ab (As := [.inr (.inl 46), .inr (.inl 64)]) h m ⟨rfl, rfl, trivial⟩)
theorem k182 {Z : sm_Z} (hZ : Z.2.2.2 = tb_N) (m : wk_M) (a : Int) (a0 : -2147483648 ≤ a) (a1 : a ≤ 2147483647) : wC Z 2 182 [] [.inr (.inl 46), .inl a] m (fun r m' => ∃ v : Int, r = some (.inl v) ∧ m' = m ∧ (0 ≤ v ∧ v ≤ 1)) := by
  have h := mo_at1 hZ 25 rfl
  exact wk_pI (wk_ab (As := [.inr (.inl 46), .inl a]) h m ⟨rfl, ⟨a0, a1⟩, trivial⟩)
theorem k192 {Z : sm_Z} (hZ : Z.2.2.2 = tb_N) (m : wk_M)  : wC Z 1 192 [] [.inr (.inl 46)] m (fun r m' => ∃ v : Int, r = some (.inl v) ∧ m' = m ∧ (-1 ≤ v ∧ v ≤ 600)) := by
  have h := mo_at1 hZ 26 rfl
  exact wk_pI (wk_ab (As := [.inr (.inl 46)]) h m ⟨rfl, trivial⟩)
