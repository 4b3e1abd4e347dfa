theorem td_15_0 : decode prog_1_method_22_code 0 = .ok ((.iload_n 0), 1) := tb_b15_ok (0, (.iload_n 0), 1) (List.mem_of_getElem? (i := 0) rfl)
theorem td_15_1 : decode prog_1_method_22_code 1 = .ok ((.ifCond .lt (12)), 3) := tb_b15_ok (1, (.ifCond .lt (12)), 3) (List.mem_of_getElem? (i := 1) rfl)
theorem td_15_4 : decode prog_1_method_22_code 4 = .ok ((.iload_n 0), 1) := tb_b15_ok (4, (.iload_n 0), 1) (List.mem_of_getElem? (i := 2) rfl)
theorem td_15_5 : decode prog_1_method_22_code 5 = .ok ((.iconst (4)), 1) := tb_b15_ok (5, (.iconst (4)), 1) (List.mem_of_getElem? (i := 3) rfl)
theorem td_15_6 : decode prog_1_method_22_code 6 = .ok ((.if_icmp .ge (7)), 3) := tb_b15_ok (6, (.if_icmp .ge (7)), 3) (List.mem_of_getElem? (i := 4) rfl)
theorem td_15_9 : decode prog_1_method_22_code 9 = .ok ((.iconst (1)), 1) := tb_b15_ok (9, (.iconst (1)), 1) (List.mem_of_getElem? (i := 5) rfl)
theorem td_15_10 : decode prog_1_method_22_code 10 = .ok ((.goto (4)), 3) := tb_b15_ok (10, (.goto (4)), 3) (List.mem_of_getElem? (i := 6) rfl)
theorem td_15_13 : decode prog_1_method_22_code 13 = .ok ((.iconst (0)), 1) := tb_b15_ok (13, (.iconst (0)), 1) (List.mem_of_getElem? (i := 7) rfl)
theorem td_15_14 : decode prog_1_method_22_code 14 = .ok (.ireturn, 1) := tb_b15_ok (14, .ireturn, 1) (List.mem_of_getElem? (i := 8) rfl)
theorem td_83_0 : decode prog_7_method_3_code 0 = .ok ((.iload_n 1), 1) := tb_b83_ok (0, (.iload_n 1), 1) (List.mem_of_getElem? (i := 0) rfl)
theorem td_83_1 : decode prog_7_method_3_code 1 = .ok ((.ifCond .lt (15)), 3) := tb_b83_ok (1, (.ifCond .lt (15)), 3) (List.mem_of_getElem? (i := 1) rfl)
theorem td_83_4 : decode prog_7_method_3_code 4 = .ok ((.iload_n 1), 1) := tb_b83_ok (4, (.iload_n 1), 1) (List.mem_of_getElem? (i := 2) rfl)
theorem td_83_5 : decode prog_7_method_3_code 5 = .ok ((.aload_n 0), 1) := tb_b83_ok (5, (.aload_n 0), 1) (List.mem_of_getElem? (i := 3) rfl)
theorem td_83_6 : decode prog_7_method_3_code 6 = .ok ((.getfield 21), 3) := tb_b83_ok (6, (.getfield 21), 3) (List.mem_of_getElem? (i := 4) rfl)
theorem td_83_9 : decode prog_7_method_3_code 9 = .ok ((.if_icmp .ge (7)), 3) := tb_b83_ok (9, (.if_icmp .ge (7)), 3) (List.mem_of_getElem? (i := 5) rfl)
theorem td_83_12 : decode prog_7_method_3_code 12 = .ok ((.iconst (1)), 1) := tb_b83_ok (12, (.iconst (1)), 1) (List.mem_of_getElem? (i := 6) rfl)
theorem td_83_13 : decode prog_7_method_3_code 13 = .ok ((.goto (4)), 3) := tb_b83_ok (13, (.goto (4)), 3) (List.mem_of_getElem? (i := 7) rfl)
theorem td_83_16 : decode prog_7_method_3_code 16 = .ok ((.iconst (0)), 1) := tb_b83_ok (16, (.iconst (0)), 1) (List.mem_of_getElem? (i := 8) rfl)
theorem td_83_17 : decode prog_7_method_3_code 17 = .ok (.ireturn, 1) := tb_b83_ok (17, .ireturn, 1) (List.mem_of_getElem? (i := 9) rfl)
theorem td_144_0 : decode prog_12_method_2_code 0 = .ok ((.iload_n 0), 1) := tb_b144_ok (0, (.iload_n 0), 1) (List.mem_of_getElem? (i := 0) rfl)
theorem td_144_1 : decode prog_12_method_2_code 1 = .ok ((.ifCond .lt (12)), 3) := tb_b144_ok (1, (.ifCond .lt (12)), 3) (List.mem_of_getElem? (i := 1) rfl)
theorem td_144_4 : decode prog_12_method_2_code 4 = .ok ((.iload_n 0), 1) := tb_b144_ok (4, (.iload_n 0), 1) (List.mem_of_getElem? (i := 2) rfl)
theorem td_144_5 : decode prog_12_method_2_code 5 = .ok ((.iconst (3)), 1) := tb_b144_ok (5, (.iconst (3)), 1) (List.mem_of_getElem? (i := 3) rfl)
theorem td_144_6 : decode prog_12_method_2_code 6 = .ok ((.if_icmp .gt (7)), 3) := tb_b144_ok (6, (.if_icmp .gt (7)), 3) (List.mem_of_getElem? (i := 4) rfl)
theorem td_144_9 : decode prog_12_method_2_code 9 = .ok ((.iconst (1)), 1) := tb_b144_ok (9, (.iconst (1)), 1) (List.mem_of_getElem? (i := 5) rfl)
theorem td_144_10 : decode prog_12_method_2_code 10 = .ok ((.goto (4)), 3) := tb_b144_ok (10, (.goto (4)), 3) (List.mem_of_getElem? (i := 6) rfl)
theorem td_144_13 : decode prog_12_method_2_code 13 = .ok ((.iconst (0)), 1) := tb_b144_ok (13, (.iconst (0)), 1) (List.mem_of_getElem? (i := 7) rfl)
theorem td_144_14 : decode prog_12_method_2_code 14 = .ok (.ireturn, 1) := tb_b144_ok (14, .ireturn, 1) (List.mem_of_getElem? (i := 8) rfl)
theorem td_197_0 : decode prog_12_method_55_code 0 = .ok ((.iload_n 1), 1) := tb_b197_ok (0, (.iload_n 1), 1) (List.mem_of_getElem? (i := 0) rfl)
theorem td_197_1 : decode prog_12_method_55_code 1 = .ok ((.ifCond .lt (15)), 3) := tb_b197_ok (1, (.ifCond .lt (15)), 3) (List.mem_of_getElem? (i := 1) rfl)
theorem td_197_4 : decode prog_12_method_55_code 4 = .ok ((.iload_n 1), 1) := tb_b197_ok (4, (.iload_n 1), 1) (List.mem_of_getElem? (i := 2) rfl)
theorem td_197_5 : decode prog_12_method_55_code 5 = .ok ((.aload_n 0), 1) := tb_b197_ok (5, (.aload_n 0), 1) (List.mem_of_getElem? (i := 3) rfl)
theorem td_197_6 : decode prog_12_method_55_code 6 = .ok ((.getfield 86), 3) := tb_b197_ok (6, (.getfield 86), 3) (List.mem_of_getElem? (i := 4) rfl)
theorem td_197_9 : decode prog_12_method_55_code 9 = .ok ((.if_icmp .ge (7)), 3) := tb_b197_ok (9, (.if_icmp .ge (7)), 3) (List.mem_of_getElem? (i := 5) rfl)
theorem td_197_12 : decode prog_12_method_55_code 12 = .ok ((.iconst (1)), 1) := tb_b197_ok (12, (.iconst (1)), 1) (List.mem_of_getElem? (i := 6) rfl)
theorem td_197_13 : decode prog_12_method_55_code 13 = .ok ((.goto (4)), 3) := tb_b197_ok (13, (.goto (4)), 3) (List.mem_of_getElem? (i := 7) rfl)
theorem td_197_16 : decode prog_12_method_55_code 16 = .ok ((.iconst (0)), 1) := tb_b197_ok (16, (.iconst (0)), 1) (List.mem_of_getElem? (i := 8) rfl)
theorem td_197_17 : decode prog_12_method_55_code 17 = .ok (.ireturn, 1) := tb_b197_ok (17, .ireturn, 1) (List.mem_of_getElem? (i := 9) rfl)
/-! methods whose arguments matter, on fresh objects -/
def fb (x : Int32) : Bool := decide (0 ≤ x) && decide (x < 4)
theorem fb_neg {x : Int32} (h : x < 0) : fb x = false := by
  unfold fb
  rw [decide_eq_false (Int32.not_le.mpr h)]
  rfl
theorem fb_ge {x : Int32} (h : (4 : Int32) ≤ x) : fb x = false := by
  unfold fb
  rw [decide_eq_false (Int32.not_lt.mpr h), Bool.and_false]
theorem fb_in {x : Int32} (h1 : ¬ x < 0) (h2 : ¬ (4 : Int32) ≤ x) : fb x = true := by
  unfold fb
  rw [decide_eq_true (Int32.not_lt.mp h1), decide_eq_true (Int32.not_le.mp h2)]
  rfl
theorem fb_gt {x : Int32} : (3 : Int32) < x ↔ (4 : Int32) ≤ x := by
  rw [Int32.lt_iff_toInt_lt, Int32.le_iff_toInt_le]
  have h3 : (3 : Int32).toInt = 3 := by decide
  have h4 : (4 : Int32).toInt = 4 := by decide
  rw [h3, h4]
  omega
theorem fb_nat {x : Int32} (h : fb x = true) : ∃ j : Nat, j < 4 ∧ x = nI j := by
  unfold fb at h
  rw [Bool.and_eq_true] at h
  have h1 := of_decide_eq_true h.1
  have h2 := of_decide_eq_true h.2
  have h3 : x ≤ (3 : Int32) := by
    rw [Int32.lt_iff_toInt_lt] at h2
    rw [Int32.le_iff_toInt_le]
    have e3 : (3 : Int32).toInt = 3 := by decide
    have e4 : (4 : Int32).toInt = 4 := by decide
    rw [e4] at h2
    rw [e3]
    omega
  obtain ⟨j, hj, e⟩ := nI_of2 (n := 3) (by decide) (Int32.not_lt.mpr h1) h3
  exact ⟨j, by omega, e⟩
def bI (b : Bool) : Int32 := bif b then 1 else 0
theorem bI_0 {b : Bool} (h : bI b = 0) : b = false := by cases b with | false => rfl | true => exact absurd h (by decide)
theorem bI_1 {b : Bool} (h : ¬ bI b = 0) : b = true := by cases b with | true => rfl | false => exact absurd rfl h
theorem one_of {x : Int32} (h1 : ¬ x < 0) (h2 : ¬ (1 : Int32) ≤ x) : x = 0 := by
  rw [Int32.lt_iff_toInt_lt] at h1
  rw [Int32.le_iff_toInt_le] at h2
  have e1 : (1 : Int32).toInt = 1 := by decide
  have e0 : (0 : Int32).toInt = 0 := by decide
  rw [e0] at h1
  rw [e1] at h2
  apply Int32.toInt_inj.mp
  rw [e0]
  omega
theorem f4_C {Z : sm_Z} (x : Int32) (ad : Nat → Nat) (μ : sm_M) : sm_C tb_cl Z (tb_ys 15) (tb_ws 15) (dp_rm 1 32 ev_s2 ev_s2) [.int x] ad ev_s2 μ (fun r sh' μ' => r = some (.int (bI (fb x))) ∧ sh' = ev_s2 ∧ μ' = μ) := by
  refine sm_enter (cc := prog_1_method_22_code) (nL := 1) (ret := some .boolean) (by decide +kernel) (Nat.le_of_ble_eq_true rfl) (fun X hXZ hX hf => ?_)
  have no : fb x = false → ∀ L, sm_E tb_cl X 13 L [] ad ev_s2 μ := fun hb L => by
    refine sm_iconst hX td_15_13 ?_
    exact sm_zret hX hf rfl rfl (fun _ _ => rfl) rfl (by decide) td_15_14 ⟨by rw [hb]; rfl, rfl, rfl⟩
  refine sm_iloadN hX td_15_0 rfl ?_
  refine sm_if_lt hX 13 td_15_1 (by decide) (fun h => no (fb_neg h) _) (fun h1 => ?_)
  refine sm_iloadN hX td_15_4 rfl ?_
  refine sm_iconst hX td_15_5 ?_
  refine sm_icmp_ge hX 13 td_15_6 (by decide) (fun h => no (fb_ge h) _) (fun h2 => ?_)
  refine sm_iconst hX td_15_9 ?_
  refine sm_goto hX 14 td_15_10 (by decide) ?_
  exact sm_zret hX hf rfl rfl (fun _ _ => rfl) rfl (by decide) td_15_14 ⟨by rw [fb_in h1 h2]; rfl, rfl, rfl⟩
theorem f4m_C {Z : sm_Z} (x : Int32) (ad : Nat → Nat) (μ : sm_M) : sm_C tb_cl Z (tb_ys 144) (tb_ws 144) (dp_rm 1 32 ev_s2 ev_s2) [.int x] ad ev_s2 μ (fun r sh' μ' => r = some (.int (bI (fb x))) ∧ sh' = ev_s2 ∧ μ' = μ) := by
  refine sm_enter (cc := prog_12_method_2_code) (nL := 1) (ret := some .boolean) (by decide +kernel) (Nat.le_of_ble_eq_true rfl) (fun X hXZ hX hf => ?_)
  have no : fb x = false → ∀ L, sm_E tb_cl X 13 L [] ad ev_s2 μ := fun hb L => by
    refine sm_iconst hX td_144_13 ?_
    exact sm_zret hX hf rfl rfl (fun _ _ => rfl) rfl (by decide) td_144_14 ⟨by rw [hb]; rfl, rfl, rfl⟩
  refine sm_iloadN hX td_144_0 rfl ?_
  refine sm_if_lt hX 13 td_144_1 (by decide) (fun h => no (fb_neg h) _) (fun h1 => ?_)
  refine sm_iloadN hX td_144_4 rfl ?_
  refine sm_iconst hX td_144_5 ?_
  refine sm_icmp_gt hX 13 td_144_6 (by decide) (fun h => no (fb_ge (fb_gt.mp h)) _) (fun h2 => ?_)
  refine sm_iconst hX td_144_9 ?_
  refine sm_goto hX 14 td_144_10 (by decide) ?_
  exact sm_zret hX hf rfl rfl (fun _ _ => rfl) rfl (by decide) td_144_14 ⟨by rw [fb_in h1 (fun z => h2 (fb_gt.mpr z))]; rfl, rfl, rfl⟩
theorem lv_C {Z : sm_Z} (x : Int32) (ad : Nat → Nat) (μ : sm_M) (h : dp_le ev_P2 μ) : sm_C tb_cl Z (tb_ys 83) (tb_ws 83) (dp_rm 1 32 ev_s2 ev_s2) [.ref 38, .int x] ad ev_s2 μ (fun r sh' μ' => r = some (.int (bI (decide (x = 0)))) ∧ sh' = ev_s2 ∧ μ' = μ) := by
  refine sm_enter (cc := prog_7_method_3_code) (nL := 2) (ret := some .boolean) (by decide +kernel) (Nat.le_of_ble_eq_true rfl) (fun X hXZ hX hf => ?_)
  rw [show (tb_ys 83).cls = "ProgramSlices$Order" by decide +kernel] at hX
  have hc : μ.1 38 0 = 1 := h.1 38 0 1 (by decide +kernel)
  have no : ¬ x = 0 → ∀ L, sm_E tb_cl X 16 L [] ad ev_s2 μ := fun hb L => by
    refine sm_iconst hX td_83_16 ?_
    exact sm_zret hX hf rfl rfl (fun _ _ => rfl) rfl (by decide) td_83_17 ⟨by rw [decide_eq_false hb]; rfl, rfl, rfl⟩
  refine sm_iloadN hX td_83_0 rfl ?_
  refine sm_if_lt hX 16 td_83_1 (by decide) (fun h => no (fun e => by rw [e] at h; exact absurd h (by decide)) _) (fun h1 => ?_)
  refine sm_iloadN hX td_83_4 rfl ?_
  refine sm_aloadN hX td_83_5 rfl ?_
  refine sm_getI hX (k := 0) (ci := 7) (T := tb_T7) (N' := 4) (C := "ProgramSlices$Order") rfl rfl (by decide) rfl tb_u7 tb_w551 td_83_6 ?_
  rw [hc]
  refine sm_icmp_ge hX 16 td_83_9 (by decide) (fun h => no (fun e => by rw [e] at h; exact absurd h (by decide)) _) (fun h2 => ?_)
  refine sm_iconst hX td_83_12 ?_
  refine sm_goto hX 17 td_83_13 (by decide) ?_
  exact sm_zret hX hf rfl rfl (fun _ _ => rfl) rfl (by decide) td_83_17 ⟨by rw [decide_eq_true (one_of h1 h2)]; rfl, rfl, rfl⟩
theorem lvm_C {Z : sm_Z} (x : Int32) (ad : Nat → Nat) (μ : sm_M) (h : dp_le ev_Pm μ) : sm_C tb_cl Z (tb_ys 197) (tb_ws 197) (dp_rm 1 32 ev_s2 ev_s2) [.ref 46, .int x] ad ev_s2 μ (fun r sh' μ' => r = some (.int (bI (decide (x = 0)))) ∧ sh' = ev_s2 ∧ μ' = μ) := by
  refine sm_enter (cc := prog_12_method_55_code) (nL := 2) (ret := some .boolean) (by decide +kernel) (Nat.le_of_ble_eq_true rfl) (fun X hXZ hX hf => ?_)
  rw [show (tb_ys 197).cls = "ProgramSlicesModel" by decide +kernel] at hX
  have hc : μ.1 46 34 = 1 := h.1 46 34 1 (by decide +kernel)
  have no : ¬ x = 0 → ∀ L, sm_E tb_cl X 16 L [] ad ev_s2 μ := fun hb L => by
    refine sm_iconst hX td_197_16 ?_
    exact sm_zret hX hf rfl rfl (fun _ _ => rfl) rfl (by decide) td_197_17 ⟨by rw [decide_eq_false hb]; rfl, rfl, rfl⟩
  refine sm_iloadN hX td_197_0 rfl ?_
  refine sm_if_lt hX 16 td_197_1 (by decide) (fun h => no (fun e => by rw [e] at h; exact absurd h (by decide)) _) (fun h1 => ?_)
  refine sm_iloadN hX td_197_4 rfl ?_
  refine sm_aloadN hX td_197_5 rfl ?_
  refine sm_getI hX (k := 34) (ci := 10) (T := tb_T10) (N' := 38) (C := "ProgramSlicesModel") rfl rfl (by decide) rfl tb_u10 tb_w665 td_197_6 ?_
  rw [hc]
  refine sm_icmp_ge hX 16 td_197_9 (by decide) (fun h => no (fun e => by rw [e] at h; exact absurd h (by decide)) _) (fun h2 => ?_)
  refine sm_iconst hX td_197_12 ?_
  refine sm_goto hX 17 td_197_13 (by decide) ?_
  exact sm_zret hX hf rfl rfl (fun _ _ => rfl) rfl (by decide) td_197_17 ⟨by rw [decide_eq_true (one_of h1 h2)]; rfl, rfl, rfl⟩
