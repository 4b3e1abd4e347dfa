/-! contracts over ranges of the reference, as contracts here -/
theorem mo_at1 {Z : sm_Z} (hZ : Z.2.2.2 = tb_N) (i : Nat) {x : ab_C × ab_N} (h : mo_ref1[i]? = some x) : ab_ok tb_cl Z tb_ys tb_ws rG x.1 := ab_all_ok hZ (fun _ he => absurd he List.not_mem_nil) mo_ref1_ok x (List.mem_of_getElem? h)
theorem mo_at2 {Z : sm_Z} (hZ : Z.2.2.2 = tb_N) (i : Nat) {x : ab_C × ab_N} (h : mo_ref2[i]? = some x) : ab_ok tb_cl Z tb_ys tb_ws rG x.1 := ab_all_ok hZ (fun e he => by
  obtain ⟨y, hy, rfl⟩ := List.mem_map.mp (List.mem_reverse.mp he)
  exact ab_all_ok hZ (fun _ he => absurd he List.not_mem_nil) mo_ref1_ok y hy) mo_ref2_ok x (List.mem_of_getElem? h)
theorem k200 {Z : sm_Z} (hZ : Z.2.2.2 = tb_N) (m : wk_M) (a : Int) (a0 : 0 ≤ a) (a1 : a ≤ 4) (b : Int) (b0 : 0 ≤ b) (b1 : b ≤ 4) : wC Z 1 200 [] [.inr (.inl 46), .inl a, .inl b] m (fun r m' => ∃ v : Int, r = some (.inl v) ∧ m' = m ∧ (0 ≤ v ∧ v ≤ 1)) := by
  have h := mo_at1 hZ 3 rfl
  exact wk_pI (wk_ab (As := [.inr (.inl 46), .inl a, .inl b]) h m ⟨rfl, ⟨a0, a1⟩, ⟨b0, b1⟩, trivial⟩)
theorem k201 {Z : sm_Z} (hZ : Z.2.2.2 = tb_N) (m : wk_M) (a : Int) (a0 : 0 ≤ a) (a1 : a ≤ 4) (b : Int) (b0 : 0 ≤ b) (b1 : b ≤ 4) (c : Int) (c0 : 0 ≤ c) (c1 : c ≤ 4) : wC Z 2 201 [] [.inr (.inl 46), .inl a, .inl b, .inl c] m (fun r m' => ∃ v : Int, r = some (.inl v) ∧ m' = m ∧ (0 ≤ v ∧ v ≤ 1)) := by
  have h := mo_at1 hZ 4 rfl
  exact wk_pI (wk_ab (As := [.inr (.inl 46), .inl a, .inl b, .inl c]) h m ⟨rfl, ⟨a0, a1⟩, ⟨b0, b1⟩, ⟨c0, c1⟩, trivial⟩)
theorem k202 {Z : sm_Z} (hZ : Z.2.2.2 = tb_N) (m : wk_M)  : wC Z 2 202 [] [.inr (.inl 46)] m (fun r m' => ∃ v : Int, r = some (.inl v) ∧ m' = m ∧ (-1 ≤ v ∧ v ≤ 4)) := by
  have h := mo_at1 hZ 5 rfl
  exact wk_pI (wk_ab (As := [.inr (.inl 46)]) h m ⟨rfl, trivial⟩)
theorem k199 {Z : sm_Z} (hZ : Z.2.2.2 = tb_N) (m : wk_M)  : wC Z 3 199 [] [.inr (.inl 46)] m (fun r m' => ∃ v : Int, r = some (.inl v) ∧ m' = m ∧ (0 ≤ v ∧ v ≤ 3)) := by
  have h := mo_at1 hZ 6 rfl
  exact wk_pI (wk_ab (As := [.inr (.inl 46)]) h m ⟨rfl, trivial⟩)
theorem k155 {Z : sm_Z} (hZ : Z.2.2.2 = tb_N) (m : wk_M) (a : Int) (a0 : 0 ≤ a) (a1 : a ≤ 251) : wC Z 2 155 [] [.inr (.inl 46), .inl a] m (fun r m' => ∃ v : Int, r = some (.inl v) ∧ m' = m ∧ (0 ≤ v ∧ v ≤ 3)) := by
  have h := mo_at1 hZ 11 rfl
  exact wk_pI (wk_ab (As := [.inr (.inl 46), .inl a]) h m ⟨rfl, ⟨a0, a1⟩, trivial⟩)
theorem k154 {Z : sm_Z} (hZ : Z.2.2.2 = tb_N) (m : wk_M) (a : Int) (a0 : -2147483648 ≤ a) (a1 : a ≤ 2147483647) : wC Z 2 154 [] [.inr (.inl 46), .inl a] m (fun r m' => ∃ v : Int, r = some (.inl v) ∧ m' = m ∧ (0 ≤ v ∧ v ≤ 1)) := by
  have h := mo_at1 hZ 12 rfl
  exact wk_pI (wk_ab (As := [.inr (.inl 46), .inl a]) h m ⟨rfl, ⟨a0, a1⟩, trivial⟩)
theorem k173s {Z : sm_Z} (hZ : Z.2.2.2 = tb_N) (m : wk_M) (a : Int) (a0 : 0 ≤ a) (a1 : a ≤ 0) (b : Int) (b0 : 0 ≤ b) (b1 : b ≤ 251) : wC Z 1 173 [] [.inr (.inl 63), .inl a, .inl b] m (fun r m' => ∃ v : Int, r = some (.inl v) ∧ m' = m ∧ (0 ≤ v ∧ v ≤ 1)) := by
  have h := mo_at1 hZ 16 rfl
  exact wk_pI (wk_ab (As := [.inr (.inl 63), .inl a, .inl b]) h m ⟨rfl, ⟨a0, a1⟩, ⟨b0, b1⟩, trivial⟩)
theorem k173l {Z : sm_Z} (hZ : Z.2.2.2 = tb_N) (m : wk_M) (a : Int) (a0 : 0 ≤ a) (a1 : a ≤ 0) (b : Int) (b0 : 0 ≤ b) (b1 : b ≤ 251) : wC Z 1 173 [] [.inr (.inl 64), .inl a, .inl b] m (fun r m' => ∃ v : Int, r = some (.inl v) ∧ m' = m ∧ (0 ≤ v ∧ v ≤ 1)) := by
  have h := mo_at1 hZ 17 rfl
  exact wk_pI (wk_ab (As := [.inr (.inl 64), .inl a, .inl b]) h m ⟨rfl, ⟨a0, a1⟩, ⟨b0, b1⟩, trivial⟩)
theorem k173i {Z : sm_Z} (hZ : Z.2.2.2 = tb_N) (m : wk_M) (a : Int) (a0 : 0 ≤ a) (a1 : a ≤ 251) (b : Int) (b0 : 0 ≤ b) (b1 : b ≤ 251) : wC Z 1 173 [] [.inr (.inl 60), .inl a, .inl b] m (fun r m' => ∃ v : Int, r = some (.inl v) ∧ m' = m ∧ (0 ≤ v ∧ v ≤ 1)) := by
  have h := mo_at1 hZ 18 rfl
  exact wk_pI (wk_ab (As := [.inr (.inl 60), .inl a, .inl b]) h m ⟨rfl, ⟨a0, a1⟩, ⟨b0, b1⟩, trivial⟩)
theorem k169s {Z : sm_Z} (hZ : Z.2.2.2 = tb_N) (m : wk_M) (a : Int) (a0 : 0 ≤ a) (a1 : a ≤ 0) (b : Int) (b0 : 0 ≤ b) (b1 : b ≤ 251) : wC Z 1 169 [63] [.inr (.inl 63), .inl a, .inl b] m (fun r m' => r = none) := by
  have h := mo_at1 hZ 19 rfl
  exact wk_ab (As := [.inr (.inl 63), .inl a, .inl b]) h m ⟨rfl, ⟨a0, a1⟩, ⟨b0, b1⟩, trivial⟩
theorem k169i {Z : sm_Z} (hZ : Z.2.2.2 = tb_N) (m : wk_M) (a : Int) (a0 : 0 ≤ a) (a1 : a ≤ 251) (b : Int) (b0 : 0 ≤ b) (b1 : b ≤ 251) : wC Z 1 169 [60] [.inr (.inl 60), .inl a, .inl b] m (fun r m' => r = none) := by
  have h := mo_at1 hZ 20 rfl
  exact wk_ab (As := [.inr (.inl 60), .inl a, .inl b]) h m ⟨rfl, ⟨a0, a1⟩, ⟨b0, b1⟩, trivial⟩
theorem k169u {Z : sm_Z} (hZ : Z.2.2.2 = tb_N) (m : wk_M) (a : Int) (a0 : 0 ≤ a) (a1 : a ≤ 251) (b : Int) (b0 : 0 ≤ b) (b1 : b ≤ 251) : wC Z 1 169 [61] [.inr (.inl 61), .inl a, .inl b] m (fun r m' => r = none) := by
  have h := mo_at1 hZ 21 rfl
  exact wk_ab (As := [.inr (.inl 61), .inl a, .inl b]) h m ⟨rfl, ⟨a0, a1⟩, ⟨b0, b1⟩, trivial⟩
theorem k169d {Z : sm_Z} (hZ : Z.2.2.2 = tb_N) (m : wk_M) (a : Int) (a0 : 0 ≤ a) (a1 : a ≤ 251) (b : Int) (b0 : 0 ≤ b) (b1 : b ≤ 251) : wC Z 1 169 [62] [.inr (.inl 62), .inl a, .inl b] m (fun r m' => r = none) := by
  have h := mo_at1 hZ 22 rfl
  exact wk_ab (As := [.inr (.inl 62), .inl a, .inl b]) h m ⟨rfl, ⟨a0, a1⟩, ⟨b0, b1⟩, trivial⟩
theorem k171 {Z : sm_Z} (hZ : Z.2.2.2 = tb_N) (m : wk_M) (a : Int) (a0 : 0 ≤ a) (a1 : a ≤ 251) : wC Z 2 171 [63] [.inr (.inl 46), .inl a] m (fun r m' => r = none) := by
  have h := mo_at1 hZ 23 rfl
  exact wk_ab (As := [.inr (.inl 46), .inl a]) h m ⟨rfl, ⟨a0, a1⟩, trivial⟩
theorem k179 {Z : sm_Z} (hZ : Z.2.2.2 = tb_N) (m : wk_M)  : wC Z 2 179 [] [.inr (.inl 46), .inr (.inl 64)] m (fun r m' => ∃ v : Int, r = some (.inl v) ∧ m' = m ∧ (-2147483648 ≤ v ∧ v ≤ 2147483647)) := by
  have h := mo_at1 hZ 24 rfl
  exact wk_pI (wk_ab (As := [.inr (.inl 46), .inr (.inl 64)]) h m ⟨rfl, rfl, trivial⟩)
theorem k182 {Z : sm_Z} (hZ : Z.2.2.2 = tb_N) (m : wk_M) (a : Int) (a0 : -2147483648 ≤ a) (a1 : a ≤ 2147483647) : wC Z 2 182 [] [.inr (.inl 46), .inl a] m (fun r m' => ∃ v : Int, r = some (.inl v) ∧ m' = m ∧ (0 ≤ v ∧ v ≤ 1)) := by
  have h := mo_at1 hZ 25 rfl
  exact wk_pI (wk_ab (As := [.inr (.inl 46), .inl a]) h m ⟨rfl, ⟨a0, a1⟩, trivial⟩)
theorem k192 {Z : sm_Z} (hZ : Z.2.2.2 = tb_N) (m : wk_M)  : wC Z 1 192 [] [.inr (.inl 46)] m (fun r m' => ∃ v : Int, r = some (.inl v) ∧ m' = m ∧ (-1 ≤ v ∧ v ≤ 600)) := by
  have h := mo_at1 hZ 26 rfl
  exact wk_pI (wk_ab (As := [.inr (.inl 46)]) h m ⟨rfl, trivial⟩)
theorem k150 {Z : sm_Z} (hZ : Z.2.2.2 = tb_N) (m : wk_M) (a : Int) (a0 : 0 ≤ a) (a1 : a ≤ 35) (b : Int) (b0 : 0 ≤ b) (b1 : b ≤ 1) : wC Z 2 150 [] [.inr (.inl 46), .inl a, .inl b] m (fun r m' => ∃ v : Int, r = some (.inl v) ∧ m' = m ∧ (-1 ≤ v ∧ v ≤ 35)) := by
  have h := mo_at2 hZ 0 rfl
  exact wk_pI (wk_ab (As := [.inr (.inl 46), .inl a, .inl b]) h m ⟨rfl, ⟨a0, a1⟩, ⟨b0, b1⟩, trivial⟩)
theorem k165 {Z : sm_Z} (hZ : Z.2.2.2 = tb_N) (m : wk_M) (a : Int) (a0 : -2147483648 ≤ a) (a1 : a ≤ 2147483647) (b : Int) (b0 : 0 ≤ b) (b1 : b ≤ 35) (c : Int) (c0 : 0 ≤ c) (c1 : c ≤ 35) : wC Z 4 165 [] [.inr (.inl 46), .inl a, .inl b, .inl c] m (fun r m' => ∃ v : Int, r = some (.inl v) ∧ m' = m ∧ (0 ≤ v ∧ v ≤ 1)) := by
  have h := mo_at2 hZ 2 rfl
  exact wk_pI (wk_ab (As := [.inr (.inl 46), .inl a, .inl b, .inl c]) h m ⟨rfl, ⟨a0, a1⟩, ⟨b0, b1⟩, ⟨c0, c1⟩, trivial⟩)
theorem k162 {Z : sm_Z} (hZ : Z.2.2.2 = tb_N) (m : wk_M) (a : Int) (a0 : -2147483648 ≤ a) (a1 : a ≤ 2147483647) (b : Int) (b0 : 0 ≤ b) (b1 : b ≤ 3) (c : Int) (c0 : 0 ≤ c) (c1 : c ≤ 35) : wC Z 4 162 [] [.inr (.inl 46), .inl a, .inl b, .inl c] m (fun r m' => ∃ v : Int, r = some (.inl v) ∧ m' = m ∧ (0 ≤ v ∧ v ≤ 1)) := by
  have h := mo_at2 hZ 3 rfl
  exact wk_pI (wk_ab (As := [.inr (.inl 46), .inl a, .inl b, .inl c]) h m ⟨rfl, ⟨a0, a1⟩, ⟨b0, b1⟩, ⟨c0, c1⟩, trivial⟩)
theorem k157 {Z : sm_Z} (hZ : Z.2.2.2 = tb_N) (m : wk_M) (a : Int) (a0 : 0 ≤ a) (a1 : a ≤ 251) (b : Int) (b0 : 0 ≤ b) (b1 : b ≤ 251) : wC Z 2 157 [] [.inr (.inl 46), .inl a, .inl b] m (fun r m' => ∃ v : Int, r = some (.inl v) ∧ m' = m ∧ (0 ≤ v ∧ v ≤ 1)) := by
  have h := mo_at2 hZ 4 rfl
  exact wk_pI (wk_ab (As := [.inr (.inl 46), .inl a, .inl b]) h m ⟨rfl, ⟨a0, a1⟩, ⟨b0, b1⟩, trivial⟩)
theorem k161 {Z : sm_Z} (hZ : Z.2.2.2 = tb_N) (m : wk_M) (a : Int) (a0 : 0 ≤ a) (a1 : a ≤ 251) (b : Int) (b0 : -2147483648 ≤ b) (b1 : b ≤ 2147483647) : wC Z 2 161 [] [.inr (.inl 46), .inl a, .inl b] m (fun r m' => ∃ v : Int, r = some (.inl v) ∧ m' = m ∧ (0 ≤ v ∧ v ≤ 1)) := by
  have h := mo_at2 hZ 5 rfl
  exact wk_pI (wk_ab (As := [.inr (.inl 46), .inl a, .inl b]) h m ⟨rfl, ⟨a0, a1⟩, ⟨b0, b1⟩, trivial⟩)
theorem k166 {Z : sm_Z} (hZ : Z.2.2.2 = tb_N) (m : wk_M) (a : Int) (a0 : 0 ≤ a) (a1 : a ≤ 251) (b : Int) (b0 : 0 ≤ b) (b1 : b ≤ 251) : wC Z 2 166 [] [.inr (.inl 46), .inl a, .inl b] m (fun r m' => ∃ v : Int, r = some (.inl v) ∧ m' = m ∧ (0 ≤ v ∧ v ≤ 1)) := by
  have h := mo_at2 hZ 6 rfl
  exact wk_pI (wk_ab (As := [.inr (.inl 46), .inl a, .inl b]) h m ⟨rfl, ⟨a0, a1⟩, ⟨b0, b1⟩, trivial⟩)
theorem k168 {Z : sm_Z} (hZ : Z.2.2.2 = tb_N) (m : wk_M) (a : Int) (a0 : 0 ≤ a) (a1 : a ≤ 251) (b : Int) (b0 : 0 ≤ b) (b1 : b ≤ 251) : wC Z 2 168 [] [.inr (.inl 46), .inl a, .inl b] m (fun r m' => ∃ v : Int, r = some (.inl v) ∧ m' = m ∧ (0 ≤ v ∧ v ≤ 1)) := by
  have h := mo_at2 hZ 7 rfl
  exact wk_pI (wk_ab (As := [.inr (.inl 46), .inl a, .inl b]) h m ⟨rfl, ⟨a0, a1⟩, ⟨b0, b1⟩, trivial⟩)
