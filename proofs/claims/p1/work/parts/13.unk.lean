/-- a run that knows of its arguments only the receiver -/
def ev_U (n j p na : Nat) (sh : sm_S) (P : dp_P) : Option dp_R := dp_o (dp_lk tb_rec j) fun e => dp_g (Nat.ble na e.2.2.1) (match dp_go e.1 e.2 (tb_cf n) 16 (0, some (.ref p) :: List.replicate (e.2.2.1 - 1) none, [], sh, P, dp_w0) with
  | some (.inr R) => some R
  | _ => none)
theorem sm_L0_0 {n p : Nat} {As : List Value} : (sm_L0 n (.ref p :: As))[0]? = some (some (.ref p)) := by
  unfold sm_L0
  simp [Value.category]
theorem ev_U_ok {Z : sm_Z} (hZ : Z.2.2.2 = tb_N) {n j p na : Nat} {sh : sm_S} {P : dp_P} {R : dp_R} (h : ev_U n j p na sh P = some R) (As : List Value) (hl : (lg_sl (.ref p :: As)).length ≤ na) : sh.length ≤ R.2.1.length ∧ sm_sl sh ≤ sm_sl R.2.1 ∧ ∀ (ad : Nat → Nat) (μ : sm_M), dp_le P μ → sm_C tb_cl Z (tb_ys j) (tb_ws j) (dp_rm (n + 1) (32 * n + 32) sh R.2.1) (.ref p :: As) ad sh μ (dp_Q μ R) := by
  unfold ev_U at h
  obtain ⟨⟨K, M⟩, he, h⟩ := dp_o_ok h
  obtain ⟨h0, h⟩ := dp_g_ok h
  have h0 := Nat.le_of_ble_eq_true h0
  have hl := Nat.le_trans hl h0
  simp only at h hl
  split at h
  · rename_i R' hR
    cases h
    obtain ⟨g1, g2, g3, g4, g5⟩ := tb_rec_ok _ (dp_lk_mem he)
    simp only at g1 g2 g3 g4 g5
    rw [g3]
    have g := dp_go_gr _ _ _ hR
    simp only [dp_shp] at g
    refine ⟨g.1, g.2, fun ad μ hle => sm_enter g4 hl (fun X hZX hX hf => ?_)⟩
    subst hZX
    rw [g5] at hX
    have h1 := (dp_go_ok hX g2 (hZ ▸ g1) (tb_cfok hZ tb_prs n) (Nat.le_refl _) (by simp only [dp_rm]; omega) 16 _ _ hR).2 (by simp only [dp_shp, dp_rm]; omega) (by simp only [dp_shp, dp_rm]; omega) ⟨g.1, g.2, hf⟩ ad μ hle dp_ou.rf (fun _ _ => rfl) (Nat.le_refl _)
    refine sm_E.less ?_ h1
    intro i v hi
    cases i with
    | zero =>
      have e : Value.ref p = v := by simpa using hi
      rw [← e]
      exact sm_L0_0
    | succ i =>
      exfalso
      have h2 : (List.replicate (M.2.1 - 1) (none : Option Value))[i]? = some (some v) := by simpa using hi
      have := List.eq_of_mem_replicate (List.mem_of_getElem? h2)
      cases this
  · cases h
def ev_u94 : Option dp_R := ev_U 3 94 0 3 ev_s2 ev_P2
theorem ev_u94_ok : ev_okW ev_u94 (some (.int (0))) ev_s2 46 = true := by decide +kernel
theorem ev_c94 {Z : sm_Z} (hZ : Z.2.2.2 = tb_N) (ad : Nat → Nat) (μ : sm_M) (h : dp_le ev_P2 μ) (a0 a1 : Int32) : sm_C tb_cl Z (tb_ys 94) (tb_ws 94) (dp_rm 4 128 ev_s2 ev_s2) [.ref 0, .int a0, .int a1] ad ev_s2 μ (fun r sh' μ' => r = (some (.int (0))) ∧ sh' = ev_s2 ∧ dp_le ev_Pm μ') := by
  obtain ⟨h1, h2, h3, h4⟩ := ev_okW_ok ev_u94_ok
  have h5 := (ev_U_ok hZ h1 [.int a0, .int a1] (Nat.le_of_ble_eq_true rfl)).2.2 ad μ h
  rw [h3] at h5
  exact h5.imp (fun r sh' μ' q => ⟨q.1.trans h2, q.2.1.trans h3, ev_Pm_le h q.2.2.2 h4⟩)
def ev_u96 : Option dp_R := ev_U 3 96 0 4 ev_s2 ev_P2
theorem ev_u96_ok : ev_okW ev_u96 (some (.int (0))) ev_s2 46 = true := by decide +kernel
theorem ev_c96 {Z : sm_Z} (hZ : Z.2.2.2 = tb_N) (ad : Nat → Nat) (μ : sm_M) (h : dp_le ev_P2 μ) (a0 a1 a2 : Int32) : sm_C tb_cl Z (tb_ys 96) (tb_ws 96) (dp_rm 4 128 ev_s2 ev_s2) [.ref 0, .int a0, .int a1, .int a2] ad ev_s2 μ (fun r sh' μ' => r = (some (.int (0))) ∧ sh' = ev_s2 ∧ dp_le ev_Pm μ') := by
  obtain ⟨h1, h2, h3, h4⟩ := ev_okW_ok ev_u96_ok
  have h5 := (ev_U_ok hZ h1 [.int a0, .int a1, .int a2] (Nat.le_of_ble_eq_true rfl)).2.2 ad μ h
  rw [h3] at h5
  exact h5.imp (fun r sh' μ' q => ⟨q.1.trans h2, q.2.1.trans h3, ev_Pm_le h q.2.2.2 h4⟩)
def ev_u97 : Option dp_R := ev_U 3 97 0 3 ev_s2 ev_P2
theorem ev_u97_ok : ev_okW ev_u97 (some (.int (-1))) ev_s2 46 = true := by decide +kernel
theorem ev_c97 {Z : sm_Z} (hZ : Z.2.2.2 = tb_N) (ad : Nat → Nat) (μ : sm_M) (h : dp_le ev_P2 μ) (a0 a1 : Int32) : sm_C tb_cl Z (tb_ys 97) (tb_ws 97) (dp_rm 4 128 ev_s2 ev_s2) [.ref 0, .int a0, .int a1] ad ev_s2 μ (fun r sh' μ' => r = (some (.int (-1))) ∧ sh' = ev_s2 ∧ dp_le ev_Pm μ') := by
  obtain ⟨h1, h2, h3, h4⟩ := ev_okW_ok ev_u97_ok
  have h5 := (ev_U_ok hZ h1 [.int a0, .int a1] (Nat.le_of_ble_eq_true rfl)).2.2 ad μ h
  rw [h3] at h5
  exact h5.imp (fun r sh' μ' q => ⟨q.1.trans h2, q.2.1.trans h3, ev_Pm_le h q.2.2.2 h4⟩)
def ev_u101 : Option dp_R := ev_U 3 101 0 1 ev_s2 ev_P2
theorem ev_u101_ok : ev_okW ev_u101 (some (.int (-1))) ev_s2 46 = true := by decide +kernel
theorem ev_c101 {Z : sm_Z} (hZ : Z.2.2.2 = tb_N) (ad : Nat → Nat) (μ : sm_M) (h : dp_le ev_P2 μ) : sm_C tb_cl Z (tb_ys 101) (tb_ws 101) (dp_rm 4 128 ev_s2 ev_s2) [.ref 0] ad ev_s2 μ (fun r sh' μ' => r = (some (.int (-1))) ∧ sh' = ev_s2 ∧ dp_le ev_Pm μ') := by
  obtain ⟨h1, h2, h3, h4⟩ := ev_okW_ok ev_u101_ok
  have h5 := (ev_U_ok hZ h1 [] (Nat.le_of_ble_eq_true rfl)).2.2 ad μ h
  rw [h3] at h5
  exact h5.imp (fun r sh' μ' q => ⟨q.1.trans h2, q.2.1.trans h3, ev_Pm_le h q.2.2.2 h4⟩)
def ev_u106 : Option dp_R := ev_U 3 106 0 2 ev_s2 ev_P2
theorem ev_u106_ok : ev_okW ev_u106 (some (.int (0))) ev_s2 46 = true := by decide +kernel
theorem ev_c106 {Z : sm_Z} (hZ : Z.2.2.2 = tb_N) (ad : Nat → Nat) (μ : sm_M) (h : dp_le ev_P2 μ) (a0 : Int32) : sm_C tb_cl Z (tb_ys 106) (tb_ws 106) (dp_rm 4 128 ev_s2 ev_s2) [.ref 0, .int a0] ad ev_s2 μ (fun r sh' μ' => r = (some (.int (0))) ∧ sh' = ev_s2 ∧ dp_le ev_Pm μ') := by
  obtain ⟨h1, h2, h3, h4⟩ := ev_okW_ok ev_u106_ok
  have h5 := (ev_U_ok hZ h1 [.int a0] (Nat.le_of_ble_eq_true rfl)).2.2 ad μ h
  rw [h3] at h5
  exact h5.imp (fun r sh' μ' q => ⟨q.1.trans h2, q.2.1.trans h3, ev_Pm_le h q.2.2.2 h4⟩)
def ev_u111 : Option dp_R := ev_U 3 111 0 3 ev_s2 ev_P2
theorem ev_u111_ok : ev_okW ev_u111 (some (.int (-1))) ev_s2 46 = true := by decide +kernel
theorem ev_c111 {Z : sm_Z} (hZ : Z.2.2.2 = tb_N) (ad : Nat → Nat) (μ : sm_M) (h : dp_le ev_P2 μ) (a0 a1 : Int32) : sm_C tb_cl Z (tb_ys 111) (tb_ws 111) (dp_rm 4 128 ev_s2 ev_s2) [.ref 0, .int a0, .int a1] ad ev_s2 μ (fun r sh' μ' => r = (some (.int (-1))) ∧ sh' = ev_s2 ∧ dp_le ev_Pm μ') := by
  obtain ⟨h1, h2, h3, h4⟩ := ev_okW_ok ev_u111_ok
  have h5 := (ev_U_ok hZ h1 [.int a0, .int a1] (Nat.le_of_ble_eq_true rfl)).2.2 ad μ h
  rw [h3] at h5
  exact h5.imp (fun r sh' μ' q => ⟨q.1.trans h2, q.2.1.trans h3, ev_Pm_le h q.2.2.2 h4⟩)
def ev_u128 : Option dp_R := ev_U 3 128 0 1 ev_s2 ev_P2
theorem ev_u128_ok : ev_okW ev_u128 (some (.int (-1))) ev_s2 46 = true := by decide +kernel
theorem ev_c128 {Z : sm_Z} (hZ : Z.2.2.2 = tb_N) (ad : Nat → Nat) (μ : sm_M) (h : dp_le ev_P2 μ) : sm_C tb_cl Z (tb_ys 128) (tb_ws 128) (dp_rm 4 128 ev_s2 ev_s2) [.ref 0] ad ev_s2 μ (fun r sh' μ' => r = (some (.int (-1))) ∧ sh' = ev_s2 ∧ dp_le ev_Pm μ') := by
  obtain ⟨h1, h2, h3, h4⟩ := ev_okW_ok ev_u128_ok
  have h5 := (ev_U_ok hZ h1 [] (Nat.le_of_ble_eq_true rfl)).2.2 ad μ h
  rw [h3] at h5
  exact h5.imp (fun r sh' μ' q => ⟨q.1.trans h2, q.2.1.trans h3, ev_Pm_le h q.2.2.2 h4⟩)
def ev_u130 : Option dp_R := ev_U 3 130 0 2 ev_s2 ev_P2
theorem ev_u130_ok : ev_okW ev_u130 (some (.int (0))) ev_s2 46 = true := by decide +kernel
theorem ev_c130 {Z : sm_Z} (hZ : Z.2.2.2 = tb_N) (ad : Nat → Nat) (μ : sm_M) (h : dp_le ev_P2 μ) (a0 : Int32) : sm_C tb_cl Z (tb_ys 130) (tb_ws 130) (dp_rm 4 128 ev_s2 ev_s2) [.ref 0, .int a0] ad ev_s2 μ (fun r sh' μ' => r = (some (.int (0))) ∧ sh' = ev_s2 ∧ dp_le ev_Pm μ') := by
  obtain ⟨h1, h2, h3, h4⟩ := ev_okW_ok ev_u130_ok
  have h5 := (ev_U_ok hZ h1 [.int a0] (Nat.le_of_ble_eq_true rfl)).2.2 ad μ h
  rw [h3] at h5
  exact h5.imp (fun r sh' μ' q => ⟨q.1.trans h2, q.2.1.trans h3, ev_Pm_le h q.2.2.2 h4⟩)
def ev_u134 : Option dp_R := ev_U 3 134 0 1 ev_s2 ev_P2
theorem ev_u134_ok : ev_okW ev_u134 (some (.int (-1))) ev_s2 46 = true := by decide +kernel
theorem ev_c134 {Z : sm_Z} (hZ : Z.2.2.2 = tb_N) (ad : Nat → Nat) (μ : sm_M) (h : dp_le ev_P2 μ) : sm_C tb_cl Z (tb_ys 134) (tb_ws 134) (dp_rm 4 128 ev_s2 ev_s2) [.ref 0] ad ev_s2 μ (fun r sh' μ' => r = (some (.int (-1))) ∧ sh' = ev_s2 ∧ dp_le ev_Pm μ') := by
  obtain ⟨h1, h2, h3, h4⟩ := ev_okW_ok ev_u134_ok
  have h5 := (ev_U_ok hZ h1 [] (Nat.le_of_ble_eq_true rfl)).2.2 ad μ h
  rw [h3] at h5
  exact h5.imp (fun r sh' μ' q => ⟨q.1.trans h2, q.2.1.trans h3, ev_Pm_le h q.2.2.2 h4⟩)
def ev_u140 : Option dp_R := ev_U 3 140 0 2 ev_s2 ev_P2
theorem ev_u140_ok : ev_okW ev_u140 (some (.int (-1))) ev_s2 46 = true := by decide +kernel
theorem ev_c140 {Z : sm_Z} (hZ : Z.2.2.2 = tb_N) (ad : Nat → Nat) (μ : sm_M) (h : dp_le ev_P2 μ) (a0 : Int32) : sm_C tb_cl Z (tb_ys 140) (tb_ws 140) (dp_rm 4 128 ev_s2 ev_s2) [.ref 0, .int a0] ad ev_s2 μ (fun r sh' μ' => r = (some (.int (-1))) ∧ sh' = ev_s2 ∧ dp_le ev_Pm μ') := by
  obtain ⟨h1, h2, h3, h4⟩ := ev_okW_ok ev_u140_ok
  have h5 := (ev_U_ok hZ h1 [.int a0] (Nat.le_of_ble_eq_true rfl)).2.2 ad μ h
  rw [h3] at h5
  exact h5.imp (fun r sh' μ' q => ⟨q.1.trans h2, q.2.1.trans h3, ev_Pm_le h q.2.2.2 h4⟩)
def ev_u88 : Option dp_R := ev_U 3 88 0 1 ev_s2 ev_P2
theorem ev_u88_ok : ev_okW ev_u88 (some (.int (0))) ev_s2 46 = true := by decide +kernel
theorem ev_c88 {Z : sm_Z} (hZ : Z.2.2.2 = tb_N) (ad : Nat → Nat) (μ : sm_M) (h : dp_le ev_P2 μ) : sm_C tb_cl Z (tb_ys 88) (tb_ws 88) (dp_rm 4 128 ev_s2 ev_s2) [.ref 0] ad ev_s2 μ (fun r sh' μ' => r = (some (.int (0))) ∧ sh' = ev_s2 ∧ dp_le ev_Pm μ') := by
  obtain ⟨h1, h2, h3, h4⟩ := ev_okW_ok ev_u88_ok
  have h5 := (ev_U_ok hZ h1 [] (Nat.le_of_ble_eq_true rfl)).2.2 ad μ h
  rw [h3] at h5
  exact h5.imp (fun r sh' μ' q => ⟨q.1.trans h2, q.2.1.trans h3, ev_Pm_le h q.2.2.2 h4⟩)
def ev_u19 : Option dp_R := ev_U 3 19 0 1 ev_s2 ev_P2
theorem ev_u19_ok : ev_okW ev_u19 none ev_s2 46 = true := by decide +kernel
theorem ev_c19 {Z : sm_Z} (hZ : Z.2.2.2 = tb_N) (ad : Nat → Nat) (μ : sm_M) (h : dp_le ev_P2 μ) : sm_C tb_cl Z (tb_ys 19) (tb_ws 19) (dp_rm 4 128 ev_s2 ev_s2) [.ref 0] ad ev_s2 μ (fun r sh' μ' => r = none ∧ sh' = ev_s2 ∧ dp_le ev_Pm μ') := by
  obtain ⟨h1, h2, h3, h4⟩ := ev_okW_ok ev_u19_ok
  have h5 := (ev_U_ok hZ h1 [] (Nat.le_of_ble_eq_true rfl)).2.2 ad μ h
  rw [h3] at h5
  exact h5.imp (fun r sh' μ' q => ⟨q.1.trans h2, q.2.1.trans h3, ev_Pm_le h q.2.2.2 h4⟩)
def ev_u175 : Option dp_R := ev_U 3 175 46 3 ev_s2 ev_Pm
theorem ev_u175_ok : ev_okW ev_u175 (some (.int (0))) ev_s2 1000 = true := by decide +kernel
theorem ev_c175 {Z : sm_Z} (hZ : Z.2.2.2 = tb_N) (ad : Nat → Nat) (μ : sm_M) (h : dp_le ev_Pm μ) (a0 a1 : Int32) : sm_C tb_cl Z (tb_ys 175) (tb_ws 175) (dp_rm 4 128 ev_s2 ev_s2) [.ref 46, .int a0, .int a1] ad ev_s2 μ (fun r sh' μ' => r = (some (.int (0))) ∧ sh' = ev_s2) := by
  obtain ⟨h1, h2, h3, h4⟩ := ev_okW_ok ev_u175_ok
  have h5 := (ev_U_ok hZ h1 [.int a0, .int a1] (Nat.le_of_ble_eq_true rfl)).2.2 ad μ h
  rw [h3] at h5
  exact h5.imp (fun r sh' μ' q => ⟨q.1.trans h2, q.2.1.trans h3⟩)
def ev_u176 : Option dp_R := ev_U 3 176 46 4 ev_s2 ev_Pm
theorem ev_u176_ok : ev_okW ev_u176 (some (.int (0))) ev_s2 1000 = true := by decide +kernel
theorem ev_c176 {Z : sm_Z} (hZ : Z.2.2.2 = tb_N) (ad : Nat → Nat) (μ : sm_M) (h : dp_le ev_Pm μ) (a0 a1 a2 : Int32) : sm_C tb_cl Z (tb_ys 176) (tb_ws 176) (dp_rm 4 128 ev_s2 ev_s2) [.ref 46, .int a0, .int a1, .int a2] ad ev_s2 μ (fun r sh' μ' => r = (some (.int (0))) ∧ sh' = ev_s2) := by
  obtain ⟨h1, h2, h3, h4⟩ := ev_okW_ok ev_u176_ok
  have h5 := (ev_U_ok hZ h1 [.int a0, .int a1, .int a2] (Nat.le_of_ble_eq_true rfl)).2.2 ad μ h
  rw [h3] at h5
  exact h5.imp (fun r sh' μ' q => ⟨q.1.trans h2, q.2.1.trans h3⟩)
def ev_u177 : Option dp_R := ev_U 3 177 46 3 ev_s2 ev_Pm
theorem ev_u177_ok : ev_okW ev_u177 (some (.int (-1))) ev_s2 1000 = true := by decide +kernel
theorem ev_c177 {Z : sm_Z} (hZ : Z.2.2.2 = tb_N) (ad : Nat → Nat) (μ : sm_M) (h : dp_le ev_Pm μ) (a0 a1 : Int32) : sm_C tb_cl Z (tb_ys 177) (tb_ws 177) (dp_rm 4 128 ev_s2 ev_s2) [.ref 46, .int a0, .int a1] ad ev_s2 μ (fun r sh' μ' => r = (some (.int (-1))) ∧ sh' = ev_s2) := by
  obtain ⟨h1, h2, h3, h4⟩ := ev_okW_ok ev_u177_ok
  have h5 := (ev_U_ok hZ h1 [.int a0, .int a1] (Nat.le_of_ble_eq_true rfl)).2.2 ad μ h
  rw [h3] at h5
  exact h5.imp (fun r sh' μ' q => ⟨q.1.trans h2, q.2.1.trans h3⟩)
def ev_u180 : Option dp_R := ev_U 3 180 46 1 ev_s2 ev_Pm
theorem ev_u180_ok : ev_okW ev_u180 (some (.int (-1))) ev_s2 1000 = true := by decide +kernel
theorem ev_c180 {Z : sm_Z} (hZ : Z.2.2.2 = tb_N) (ad : Nat → Nat) (μ : sm_M) (h : dp_le ev_Pm μ) : sm_C tb_cl Z (tb_ys 180) (tb_ws 180) (dp_rm 4 128 ev_s2 ev_s2) [.ref 46] ad ev_s2 μ (fun r sh' μ' => r = (some (.int (-1))) ∧ sh' = ev_s2) := by
  obtain ⟨h1, h2, h3, h4⟩ := ev_okW_ok ev_u180_ok
  have h5 := (ev_U_ok hZ h1 [] (Nat.le_of_ble_eq_true rfl)).2.2 ad μ h
  rw [h3] at h5
  exact h5.imp (fun r sh' μ' q => ⟨q.1.trans h2, q.2.1.trans h3⟩)
def ev_u182 : Option dp_R := ev_U 3 182 46 2 ev_s2 ev_Pm
theorem ev_u182_ok : ev_okW ev_u182 (some (.int (0))) ev_s2 1000 = true := by decide +kernel
theorem ev_c182 {Z : sm_Z} (hZ : Z.2.2.2 = tb_N) (ad : Nat → Nat) (μ : sm_M) (h : dp_le ev_Pm μ) (a0 : Int32) : sm_C tb_cl Z (tb_ys 182) (tb_ws 182) (dp_rm 4 128 ev_s2 ev_s2) [.ref 46, .int a0] ad ev_s2 μ (fun r sh' μ' => r = (some (.int (0))) ∧ sh' = ev_s2) := by
  obtain ⟨h1, h2, h3, h4⟩ := ev_okW_ok ev_u182_ok
  have h5 := (ev_U_ok hZ h1 [.int a0] (Nat.le_of_ble_eq_true rfl)).2.2 ad μ h
  rw [h3] at h5
  exact h5.imp (fun r sh' μ' q => ⟨q.1.trans h2, q.2.1.trans h3⟩)
def ev_u184 : Option dp_R := ev_U 3 184 46 3 ev_s2 ev_Pm
theorem ev_u184_ok : ev_okW ev_u184 (some (.int (-1))) ev_s2 1000 = true := by decide +kernel
theorem ev_c184 {Z : sm_Z} (hZ : Z.2.2.2 = tb_N) (ad : Nat → Nat) (μ : sm_M) (h : dp_le ev_Pm μ) (a0 a1 : Int32) : sm_C tb_cl Z (tb_ys 184) (tb_ws 184) (dp_rm 4 128 ev_s2 ev_s2) [.ref 46, .int a0, .int a1] ad ev_s2 μ (fun r sh' μ' => r = (some (.int (-1))) ∧ sh' = ev_s2) := by
  obtain ⟨h1, h2, h3, h4⟩ := ev_okW_ok ev_u184_ok
  have h5 := (ev_U_ok hZ h1 [.int a0, .int a1] (Nat.le_of_ble_eq_true rfl)).2.2 ad μ h
  rw [h3] at h5
  exact h5.imp (fun r sh' μ' q => ⟨q.1.trans h2, q.2.1.trans h3⟩)
def ev_u192 : Option dp_R := ev_U 3 192 46 1 ev_s2 ev_Pm
theorem ev_u192_ok : ev_okW ev_u192 (some (.int (-1))) ev_s2 1000 = true := by decide +kernel
theorem ev_c192 {Z : sm_Z} (hZ : Z.2.2.2 = tb_N) (ad : Nat → Nat) (μ : sm_M) (h : dp_le ev_Pm μ) : sm_C tb_cl Z (tb_ys 192) (tb_ws 192) (dp_rm 4 128 ev_s2 ev_s2) [.ref 46] ad ev_s2 μ (fun r sh' μ' => r = (some (.int (-1))) ∧ sh' = ev_s2) := by
  obtain ⟨h1, h2, h3, h4⟩ := ev_okW_ok ev_u192_ok
  have h5 := (ev_U_ok hZ h1 [] (Nat.le_of_ble_eq_true rfl)).2.2 ad μ h
  rw [h3] at h5
  exact h5.imp (fun r sh' μ' q => ⟨q.1.trans h2, q.2.1.trans h3⟩)
def ev_u193 : Option dp_R := ev_U 3 193 46 2 ev_s2 ev_Pm
theorem ev_u193_ok : ev_okW ev_u193 (some (.int (0))) ev_s2 1000 = true := by decide +kernel
theorem ev_c193 {Z : sm_Z} (hZ : Z.2.2.2 = tb_N) (ad : Nat → Nat) (μ : sm_M) (h : dp_le ev_Pm μ) (a0 : Int32) : sm_C tb_cl Z (tb_ys 193) (tb_ws 193) (dp_rm 4 128 ev_s2 ev_s2) [.ref 46, .int a0] ad ev_s2 μ (fun r sh' μ' => r = (some (.int (0))) ∧ sh' = ev_s2) := by
  obtain ⟨h1, h2, h3, h4⟩ := ev_okW_ok ev_u193_ok
  have h5 := (ev_U_ok hZ h1 [.int a0] (Nat.le_of_ble_eq_true rfl)).2.2 ad μ h
  rw [h3] at h5
  exact h5.imp (fun r sh' μ' q => ⟨q.1.trans h2, q.2.1.trans h3⟩)
def ev_u203 : Option dp_R := ev_U 3 203 46 1 ev_s2 ev_Pm
theorem ev_u203_ok : ev_okW ev_u203 (some (.int (-1))) ev_s2 1000 = true := by decide +kernel
theorem ev_c203 {Z : sm_Z} (hZ : Z.2.2.2 = tb_N) (ad : Nat → Nat) (μ : sm_M) (h : dp_le ev_Pm μ) : sm_C tb_cl Z (tb_ys 203) (tb_ws 203) (dp_rm 4 128 ev_s2 ev_s2) [.ref 46] ad ev_s2 μ (fun r sh' μ' => r = (some (.int (-1))) ∧ sh' = ev_s2) := by
  obtain ⟨h1, h2, h3, h4⟩ := ev_okW_ok ev_u203_ok
  have h5 := (ev_U_ok hZ h1 [] (Nat.le_of_ble_eq_true rfl)).2.2 ad μ h
  rw [h3] at h5
  exact h5.imp (fun r sh' μ' q => ⟨q.1.trans h2, q.2.1.trans h3⟩)
def ev_u205 : Option dp_R := ev_U 3 205 46 2 ev_s2 ev_Pm
theorem ev_u205_ok : ev_okW ev_u205 (some (.int (-1))) ev_s2 1000 = true := by decide +kernel
theorem ev_c205 {Z : sm_Z} (hZ : Z.2.2.2 = tb_N) (ad : Nat → Nat) (μ : sm_M) (h : dp_le ev_Pm μ) (a0 : Int32) : sm_C tb_cl Z (tb_ys 205) (tb_ws 205) (dp_rm 4 128 ev_s2 ev_s2) [.ref 46, .int a0] ad ev_s2 μ (fun r sh' μ' => r = (some (.int (-1))) ∧ sh' = ev_s2) := by
  obtain ⟨h1, h2, h3, h4⟩ := ev_okW_ok ev_u205_ok
  have h5 := (ev_U_ok hZ h1 [.int a0] (Nat.le_of_ble_eq_true rfl)).2.2 ad μ h
  rw [h3] at h5
  exact h5.imp (fun r sh' μ' q => ⟨q.1.trans h2, q.2.1.trans h3⟩)
def ev_u199 : Option dp_R := ev_U 3 199 46 1 ev_s2 ev_Pm
theorem ev_u199_ok : ev_okW ev_u199 (some (.int (0))) ev_s2 1000 = true := by decide +kernel
theorem ev_c199 {Z : sm_Z} (hZ : Z.2.2.2 = tb_N) (ad : Nat → Nat) (μ : sm_M) (h : dp_le ev_Pm μ) : sm_C tb_cl Z (tb_ys 199) (tb_ws 199) (dp_rm 4 128 ev_s2 ev_s2) [.ref 46] ad ev_s2 μ (fun r sh' μ' => r = (some (.int (0))) ∧ sh' = ev_s2) := by
  obtain ⟨h1, h2, h3, h4⟩ := ev_okW_ok ev_u199_ok
  have h5 := (ev_U_ok hZ h1 [] (Nat.le_of_ble_eq_true rfl)).2.2 ad μ h
  rw [h3] at h5
  exact h5.imp (fun r sh' μ' q => ⟨q.1.trans h2, q.2.1.trans h3⟩)
def ev_u145 : Option dp_R := ev_U 3 145 46 1 ev_s2 ev_Pm
theorem ev_u145_ok : ev_okW ev_u145 none ev_s2 1000 = true := by decide +kernel
theorem ev_c145 {Z : sm_Z} (hZ : Z.2.2.2 = tb_N) (ad : Nat → Nat) (μ : sm_M) (h : dp_le ev_Pm μ) : sm_C tb_cl Z (tb_ys 145) (tb_ws 145) (dp_rm 4 128 ev_s2 ev_s2) [.ref 46] ad ev_s2 μ (fun r sh' μ' => r = none ∧ sh' = ev_s2) := by
  obtain ⟨h1, h2, h3, h4⟩ := ev_okW_ok ev_u145_ok
  have h5 := (ev_U_ok hZ h1 [] (Nat.le_of_ble_eq_true rfl)).2.2 ad μ h
  rw [h3] at h5
  exact h5.imp (fun r sh' μ' q => ⟨q.1.trans h2, q.2.1.trans h3⟩)
def ev_u194 : Option dp_R := ev_U 3 194 46 3 ev_s2 ev_Pm
theorem ev_u194_ok : ev_okW ev_u194 (some (.int (0))) ev_s2 1000 = true := by decide +kernel
theorem ev_c194 {Z : sm_Z} (hZ : Z.2.2.2 = tb_N) (ad : Nat → Nat) (μ : sm_M) (h : dp_le ev_Pm μ) (a0 a1 : Int32) : sm_C tb_cl Z (tb_ys 194) (tb_ws 194) (dp_rm 4 128 ev_s2 ev_s2) [.ref 46, .int a0, .int a1] ad ev_s2 μ (fun r sh' μ' => r = (some (.int (0))) ∧ sh' = ev_s2) := by
  obtain ⟨h1, h2, h3, h4⟩ := ev_okW_ok ev_u194_ok
  have h5 := (ev_U_ok hZ h1 [.int a0, .int a1] (Nat.le_of_ble_eq_true rfl)).2.2 ad μ h
  rw [h3] at h5
  exact h5.imp (fun r sh' μ' q => ⟨q.1.trans h2, q.2.1.trans h3⟩)
