/-! Arrays.fill as a contract here -/
theorem wfI {Z : sm_Z} (p n : Nat) (v : Int) (m : wk_M) (hs : ev_s2[p]? = some (.inr (0, n))) (hn : Nat.ble n 1000000 = true) (h1 : (rg p 0).1 ≤ v) (h2 : v ≤ (rg p 0).2) : wC Z 0 24 [p] [.inr (.inl p), .inl v] m (fun r m' => r = none ∧ ∀ i : Int, 0 ≤ i → i < (n : Int) → m'.1 p i = v) := by
  intro μ ad e gm hv
  have hx : ab_lo ≤ v ∧ v ≤ ab_hi := hv.2.1
  refine sm_C.imp (tb_fillI_C (Z := Z) (rm := dp_rm 0 (32 * 0) rG.2 rG.2) (Nat.sub_self _) (Nat.sub_self _) (v := Int32.ofInt v) hs (Nat.le_of_ble_eq_true hn) ad μ) (fun r sh' μ' q => ?_)
  obtain ⟨q1, q2, q3⟩ := q
  subst q1 q2 q3
  refine ⟨rfl, fun q j => ?_, fun q hq => ?_, none, rfl, trivial, rfl, fun i i0 i1 => ?_⟩
  · by_cases hq : q = p
    · subst hq
      have g0 : rG.1 q j = rg q 0 := rG_ok q 0 n hs j
      show (rG.1 q j).1 ≤ ((sm_fI μ q n (Int32.ofInt v)).1 q j).toInt ∧ _ ≤ (rG.1 q j).2
      by_cases hj : j < n
      · have ev : (sm_fI μ q n (Int32.ofInt v)).1 q j = Int32.ofInt v := by simp [sm_fI, hj]
        rw [ev, wk_ti hx, g0]
        exact ⟨h1, h2⟩
      · have ev : (sm_fI μ q n (Int32.ofInt v)).1 q j = μ.1 q j := by simp [sm_fI, hj]
        rw [ev]
        exact gm q j
    · have ev : (sm_fI μ p n (Int32.ofInt v)).1 q = μ.1 q := by simp [sm_fI, hq]
      rw [ev]
      exact gm q j
  · have hq : q ≠ p := fun z => hq (z ▸ List.mem_cons_self)
    exact ⟨by simp [sm_fI, hq], rfl⟩
  · rw [wk_rdI rfl p i0]
    have hj : i.toNat < n := by omega
    have ev : (sm_fI μ p n (Int32.ofInt v)).1 p i.toNat = Int32.ofInt v := by simp [sm_fI, hj]
    rw [ev, wk_ti hx]
theorem wfL {Z : sm_Z} (p n : Nat) (v : Int64) (m : wk_M) (hs : ev_s2[p]? = some (.inr (2, n))) (hn : Nat.ble n 1000000 = true) : wC Z 0 37 [p] [.inr (.inl p), .inr (.inr v)] m (fun r m' => r = none ∧ m'.1 = m.1 ∧ ∀ i : Int, 0 ≤ i → i < (n : Int) → m'.2 p i = v) := by
  intro μ ad e gm hv
  refine sm_C.imp (tb_fillL_C (Z := Z) (rm := dp_rm 0 (32 * 0) rG.2 rG.2) (Nat.sub_self _) (Nat.sub_self _) (v := v) hs (Nat.le_of_ble_eq_true hn) ad μ) (fun r sh' μ' q => ?_)
  obtain ⟨q1, q2, q3⟩ := q
  subst q1 q2 q3
  refine ⟨rfl, gm, fun q hq => ?_, none, rfl, trivial, rfl, ?_, fun i i0 i1 => ?_⟩
  · have hq : q ≠ p := fun z => hq (z ▸ List.mem_cons_self)
    exact ⟨rfl, by simp [sm_fL, hq]⟩
  · rw [← e]
    rfl
  · rw [wk_rdL rfl p i0]
    have hj : i.toNat < n := by omega
    simp [sm_fL, hj]
