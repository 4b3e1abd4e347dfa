def tb_f0 : List (Nat × Nat × Nat × Nat) := [(187, 5, 0, 3), (12, 0, 0, 2), (21, 0, 1, 2), (30, 0, 2, 2), (37, 0, 3, 2), (44, 0, 4, 2), (53, 0, 5, 2), (60, 0, 6, 2), (64, 0, 7, 1)]
theorem tb_f0_0 : dp_fok tb_cl tb_N "ProgramSlices" tb_W 187 (5, 0, 3) := ⟨"ProgramSlices$Machine", tb_T5, 15, tb_t5, rfl, by decide, tb_u5, tb_y5, tb_n5, Or.inl tb_w0, fun h => absurd h (by decide), fun h => absurd h (by decide), fun h => absurd h (by decide)⟩
theorem tb_f0_1 : dp_fok tb_cl tb_N "ProgramSlices" tb_W 12 (0, 0, 2) := ⟨"ProgramSlices", tb_T0, 8, tb_t0, rfl, by decide, tb_u0, tb_y0, tb_n0, Or.inl tb_w1, fun h => absurd h (by decide), fun h => absurd h (by decide), fun _ => ⟨rfl, rfl, tb_w1, fun _ => ⟨rfl, rfl⟩⟩⟩
theorem tb_f0_2 : dp_fok tb_cl tb_N "ProgramSlices" tb_W 21 (0, 1, 2) := ⟨"ProgramSlices", tb_T0, 8, tb_t0, rfl, by decide, tb_u0, tb_y0, tb_n0, Or.inl tb_w2, fun h => absurd h (by decide), fun h => absurd h (by decide), fun _ => ⟨rfl, rfl, tb_w2, fun _ => ⟨rfl, rfl⟩⟩⟩
theorem tb_f0_3 : dp_fok tb_cl tb_N "ProgramSlices" tb_W 30 (0, 2, 2) := ⟨"ProgramSlices", tb_T0, 8, tb_t0, rfl, by decide, tb_u0, tb_y0, tb_n0, Or.inl tb_w3, fun h => absurd h (by decide), fun h => absurd h (by decide), fun _ => ⟨rfl, rfl, tb_w3, fun _ => ⟨rfl, rfl⟩⟩⟩
theorem tb_f0_4 : dp_fok tb_cl tb_N "ProgramSlices" tb_W 37 (0, 3, 2) := ⟨"ProgramSlices", tb_T0, 8, tb_t0, rfl, by decide, tb_u0, tb_y0, tb_n0, Or.inl tb_w4, fun h => absurd h (by decide), fun h => absurd h (by decide), fun _ => ⟨rfl, rfl, tb_w4, fun _ => ⟨rfl, rfl⟩⟩⟩
theorem tb_f0_5 : dp_fok tb_cl tb_N "ProgramSlices" tb_W 44 (0, 4, 2) := ⟨"ProgramSlices", tb_T0, 8, tb_t0, rfl, by decide, tb_u0, tb_y0, tb_n0, Or.inl tb_w5, fun h => absurd h (by decide), fun h => absurd h (by decide), fun _ => ⟨rfl, rfl, tb_w5, fun _ => ⟨rfl, rfl⟩⟩⟩
theorem tb_f0_6 : dp_fok tb_cl tb_N "ProgramSlices" tb_W 53 (0, 5, 2) := ⟨"ProgramSlices", tb_T0, 8, tb_t0, rfl, by decide, tb_u0, tb_y0, tb_n0, Or.inl tb_w6, fun h => absurd h (by decide), fun h => absurd h (by decide), fun _ => ⟨rfl, rfl, tb_w6, fun _ => ⟨rfl, rfl⟩⟩⟩
theorem tb_f0_7 : dp_fok tb_cl tb_N "ProgramSlices" tb_W 60 (0, 6, 2) := ⟨"ProgramSlices", tb_T0, 8, tb_t0, rfl, by decide, tb_u0, tb_y0, tb_n0, Or.inl tb_w7, fun h => absurd h (by decide), fun h => absurd h (by decide), fun _ => ⟨rfl, rfl, tb_w7, fun _ => ⟨rfl, rfl⟩⟩⟩
theorem tb_f0_8 : dp_fok tb_cl tb_N "ProgramSlices" tb_W 64 (0, 7, 1) := ⟨"ProgramSlices", tb_T0, 8, tb_t0, rfl, by decide, tb_u0, tb_y0, tb_n0, Or.inl tb_w8, fun h => absurd h (by decide), fun _ => ⟨rfl, rfl⟩, fun h => absurd h (by decide)⟩
theorem tb_f0_ok : ∀ e ∈ tb_f0, dp_fok tb_cl tb_N "ProgramSlices" tb_W e.1 e.2 := List.forall_mem_cons.mpr ⟨tb_f0_0, List.forall_mem_cons.mpr ⟨tb_f0_1, List.forall_mem_cons.mpr ⟨tb_f0_2, List.forall_mem_cons.mpr ⟨tb_f0_3, List.forall_mem_cons.mpr ⟨tb_f0_4, List.forall_mem_cons.mpr ⟨tb_f0_5, List.forall_mem_cons.mpr ⟨tb_f0_6, List.forall_mem_cons.mpr ⟨tb_f0_7, List.forall_mem_cons.mpr ⟨tb_f0_8, fun _ h => absurd h List.not_mem_nil⟩⟩⟩⟩⟩⟩⟩⟩⟩
def tb_c0 : List (Nat × Int32) := []
theorem tb_c0_ok : ∀ e ∈ tb_c0, Jvm.Cond.constant "ProgramSlices" e.1 e.2 ∈ tb_W := fun _ h => absurd h List.not_mem_nil
def tb_l0 : List (Nat × Int64) := []
theorem tb_l0_ok : ∀ e ∈ tb_l0, Jvm.Cond.constantLong "ProgramSlices" e.1 e.2 ∈ tb_W := fun _ h => absurd h List.not_mem_nil
def tb_s0 : List (Nat × Nat × Nat × Nat) := [(115, 15, 1, 0), (170, 67, 2, 0)]
theorem tb_s0_0 (cc : ByteArray) : sm_Cal tb_cl tb_N cc "ProgramSlices" tb_W (.invokestatic 115) (tb_ys 15) (tb_ws 15) 1 (dp_rcO 0) := sm_cal_S (tb_GS tb_w87 tb_w88 tb_w89 tb_w90) ⟨by decide, by decide, by decide +kernel⟩ (by decide)
theorem tb_s0_1 (cc : ByteArray) : sm_Cal tb_cl tb_N cc "ProgramSlices" tb_W (.invokestatic 170) (tb_ys 67) (tb_ws 67) 2 (dp_rcO 0) := sm_cal_S (tb_GS tb_w151 tb_w152 tb_w89 tb_w153) ⟨by decide, by decide, by decide +kernel⟩ (by decide)
theorem tb_s0_ok : ∀ e ∈ tb_s0, ∀ cc, sm_Cal tb_cl tb_N cc "ProgramSlices" tb_W (.invokestatic e.1) (tb_ys e.2.1) (tb_ws e.2.1) e.2.2.1 (dp_rcO e.2.2.2) := List.forall_mem_cons.mpr ⟨tb_s0_0, List.forall_mem_cons.mpr ⟨tb_s0_1, fun _ h => absurd h List.not_mem_nil⟩⟩
def tb_v0 : List (Nat × Nat × Nat × Nat) := [(68, 11, 1, 2), (72, 12, 5, 2), (76, 18, 5, 2), (80, 20, 1, 2), (83, 21, 1, 10), (86, 22, 1, 6), (89, 26, 1, 2), (93, 35, 1, 3), (96, 60, 1, 5), (99, 76, 2, 9), (103, 81, 2, 8), (107, 83, 2, 8), (111, 84, 3, 8), (118, 87, 4, 8), (122, 89, 1, 8), (125, 44, 2, 2), (128, 95, 3, 3), (132, 33, 2, 2), (135, 34, 2, 2), (139, 73, 4, 3), (143, 78, 3, 5), (147, 98, 4, 10), (151, 100, 1, 10), (154, 102, 1, 10), (157, 103, 3, 10), (161, 107, 1, 10), (164, 45, 2, 2), (167, 108, 1, 10), (174, 110, 3, 6), (177, 112, 1, 10), (180, 113, 4, 6), (184, 129, 1, 6), (191, 131, 2, 7), (196, 133, 3, 7), (199, 135, 1, 1), (202, 136, 1, 9), (205, 141, 2, 9)]
theorem tb_v0_0 (cc : ByteArray) : sm_Cal tb_cl tb_N cc "ProgramSlices" tb_W (.invokevirtual 68) (tb_ys 11) (tb_ws 11) 1 (dp_rcO 2) := sm_cal_V (ci := 1) (N0 := 14) (T0 := tb_T1) rfl (tb_GV tb_w35 tb_w36 tb_w37 tb_w10 tb_w38) ⟨by decide, by decide, by decide +kernel⟩ (by decide)
theorem tb_v0_1 (cc : ByteArray) : sm_Cal tb_cl tb_N cc "ProgramSlices" tb_W (.invokevirtual 72) (tb_ys 12) (tb_ws 12) 5 (dp_rcO 2) := sm_cal_V (ci := 1) (N0 := 14) (T0 := tb_T1) rfl (tb_GV tb_w39 tb_w40 tb_w41 tb_w10 tb_w42) ⟨by decide, by decide, by decide +kernel⟩ (by decide)
theorem tb_v0_2 (cc : ByteArray) : sm_Cal tb_cl tb_N cc "ProgramSlices" tb_W (.invokevirtual 76) (tb_ys 18) (tb_ws 18) 5 (dp_rcO 2) := sm_cal_V (ci := 1) (N0 := 14) (T0 := tb_T1) rfl (tb_GV tb_w43 tb_w44 tb_w45 tb_w10 tb_w46) ⟨by decide, by decide, by decide +kernel⟩ (by decide)
theorem tb_v0_3 (cc : ByteArray) : sm_Cal tb_cl tb_N cc "ProgramSlices" tb_W (.invokevirtual 80) (tb_ys 20) (tb_ws 20) 1 (dp_rcO 2) := sm_cal_V (ci := 1) (N0 := 14) (T0 := tb_T1) rfl (tb_GV tb_w47 tb_w48 tb_w49 tb_w10 tb_w50) ⟨by decide, by decide, by decide +kernel⟩ (by decide)
theorem tb_v0_4 (cc : ByteArray) : sm_Cal tb_cl tb_N cc "ProgramSlices" tb_W (.invokevirtual 83) (tb_ys 21) (tb_ws 21) 1 (dp_rcO 10) := sm_cal_V (ci := 9) (N0 := 4) (T0 := tb_T9) rfl (tb_GV tb_w51 tb_w52 tb_w53 tb_w33 tb_w54) ⟨by decide, by decide, by decide +kernel⟩ (by decide)
theorem tb_v0_5 (cc : ByteArray) : sm_Cal tb_cl tb_N cc "ProgramSlices" tb_W (.invokevirtual 86) (tb_ys 22) (tb_ws 22) 1 (dp_rcO 6) := sm_cal_V (ci := 5) (N0 := 15) (T0 := tb_T5) rfl (tb_GV tb_w55 tb_w56 tb_w57 tb_w21 tb_w58) ⟨by decide, by decide, by decide +kernel⟩ (by decide)
theorem tb_v0_6 (cc : ByteArray) : sm_Cal tb_cl tb_N cc "ProgramSlices" tb_W (.invokevirtual 89) (tb_ys 26) (tb_ws 26) 1 (dp_rcO 2) := sm_cal_V (ci := 1) (N0 := 14) (T0 := tb_T1) rfl (tb_GV tb_w59 tb_w60 tb_w61 tb_w10 tb_w62) ⟨by decide, by decide, by decide +kernel⟩ (by decide)
theorem tb_v0_7 (cc : ByteArray) : sm_Cal tb_cl tb_N cc "ProgramSlices" tb_W (.invokevirtual 93) (tb_ys 35) (tb_ws 35) 1 (dp_rcO 3) := sm_cal_V (ci := 2) (N0 := 7) (T0 := tb_T2) rfl (tb_GV tb_w63 tb_w64 tb_w65 tb_w13 tb_w66) ⟨by decide, by decide, by decide +kernel⟩ (by decide)
theorem tb_v0_8 (cc : ByteArray) : sm_Cal tb_cl tb_N cc "ProgramSlices" tb_W (.invokevirtual 96) (tb_ys 60) (tb_ws 60) 1 (dp_rcO 5) := sm_cal_V (ci := 4) (N0 := 5) (T0 := tb_T4) rfl (tb_GV tb_w67 tb_w68 tb_w69 tb_w17 tb_w70) ⟨by decide, by decide, by decide +kernel⟩ (by decide)
theorem tb_v0_9 (cc : ByteArray) : sm_Cal tb_cl tb_N cc "ProgramSlices" tb_W (.invokevirtual 99) (tb_ys 76) (tb_ws 76) 2 (dp_rcO 9) := sm_cal_V (ci := 8) (N0 := 3) (T0 := tb_T8) rfl (tb_GV tb_w71 tb_w72 tb_w73 tb_w29 tb_w74) ⟨by decide, by decide, by decide +kernel⟩ (by decide)
theorem tb_v0_10 (cc : ByteArray) : sm_Cal tb_cl tb_N cc "ProgramSlices" tb_W (.invokevirtual 103) (tb_ys 81) (tb_ws 81) 2 (dp_rcO 8) := sm_cal_V (ci := 7) (N0 := 4) (T0 := tb_T7) rfl (tb_GV tb_w75 tb_w76 tb_w77 tb_w25 tb_w78) ⟨by decide, by decide, by decide +kernel⟩ (by decide)
theorem tb_v0_11 (cc : ByteArray) : sm_Cal tb_cl tb_N cc "ProgramSlices" tb_W (.invokevirtual 107) (tb_ys 83) (tb_ws 83) 2 (dp_rcO 8) := sm_cal_V (ci := 7) (N0 := 4) (T0 := tb_T7) rfl (tb_GV tb_w79 tb_w80 tb_w81 tb_w25 tb_w82) ⟨by decide, by decide, by decide +kernel⟩ (by decide)
theorem tb_v0_12 (cc : ByteArray) : sm_Cal tb_cl tb_N cc "ProgramSlices" tb_W (.invokevirtual 111) (tb_ys 84) (tb_ws 84) 3 (dp_rcO 8) := sm_cal_V (ci := 7) (N0 := 4) (T0 := tb_T7) rfl (tb_GV tb_w83 tb_w84 tb_w85 tb_w25 tb_w86) ⟨by decide, by decide, by decide +kernel⟩ (by decide)
theorem tb_v0_13 (cc : ByteArray) : sm_Cal tb_cl tb_N cc "ProgramSlices" tb_W (.invokevirtual 118) (tb_ys 87) (tb_ws 87) 4 (dp_rcO 8) := sm_cal_V (ci := 7) (N0 := 4) (T0 := tb_T7) rfl (tb_GV tb_w91 tb_w92 tb_w93 tb_w25 tb_w94) ⟨by decide, by decide, by decide +kernel⟩ (by decide)
theorem tb_v0_14 (cc : ByteArray) : sm_Cal tb_cl tb_N cc "ProgramSlices" tb_W (.invokevirtual 122) (tb_ys 89) (tb_ws 89) 1 (dp_rcO 8) := sm_cal_V (ci := 7) (N0 := 4) (T0 := tb_T7) rfl (tb_GV tb_w95 tb_w96 tb_w97 tb_w25 tb_w98) ⟨by decide, by decide, by decide +kernel⟩ (by decide)
theorem tb_v0_15 (cc : ByteArray) : sm_Cal tb_cl tb_N cc "ProgramSlices" tb_W (.invokevirtual 125) (tb_ys 44) (tb_ws 44) 2 (dp_rcO 2) := sm_cal_V (ci := 1) (N0 := 14) (T0 := tb_T1) rfl (tb_GV tb_w99 tb_w100 tb_w101 tb_w10 tb_w102) ⟨by decide, by decide, by decide +kernel⟩ (by decide)
theorem tb_v0_16 (cc : ByteArray) : sm_Cal tb_cl tb_N cc "ProgramSlices" tb_W (.invokevirtual 128) (tb_ys 95) (tb_ws 95) 3 (dp_rcO 3) := sm_cal_V (ci := 2) (N0 := 7) (T0 := tb_T2) rfl (tb_GV tb_w103 tb_w104 tb_w105 tb_w13 tb_w106) ⟨by decide, by decide, by decide +kernel⟩ (by decide)
theorem tb_v0_17 (cc : ByteArray) : sm_Cal tb_cl tb_N cc "ProgramSlices" tb_W (.invokevirtual 132) (tb_ys 33) (tb_ws 33) 2 (dp_rcO 2) := sm_cal_V (ci := 1) (N0 := 14) (T0 := tb_T1) rfl (tb_GV tb_w107 tb_w108 tb_w109 tb_w10 tb_w110) ⟨by decide, by decide, by decide +kernel⟩ (by decide)
theorem tb_v0_18 (cc : ByteArray) : sm_Cal tb_cl tb_N cc "ProgramSlices" tb_W (.invokevirtual 135) (tb_ys 34) (tb_ws 34) 2 (dp_rcO 2) := sm_cal_V (ci := 1) (N0 := 14) (T0 := tb_T1) rfl (tb_GV tb_w111 tb_w112 tb_w113 tb_w10 tb_w114) ⟨by decide, by decide, by decide +kernel⟩ (by decide)
theorem tb_v0_19 (cc : ByteArray) : sm_Cal tb_cl tb_N cc "ProgramSlices" tb_W (.invokevirtual 139) (tb_ys 73) (tb_ws 73) 4 (dp_rcO 3) := sm_cal_V (ci := 2) (N0 := 7) (T0 := tb_T2) rfl (tb_GV tb_w115 tb_w116 tb_w117 tb_w13 tb_w118) ⟨by decide, by decide, by decide +kernel⟩ (by decide)
theorem tb_v0_20 (cc : ByteArray) : sm_Cal tb_cl tb_N cc "ProgramSlices" tb_W (.invokevirtual 143) (tb_ys 78) (tb_ws 78) 3 (dp_rcO 5) := sm_cal_V (ci := 4) (N0 := 5) (T0 := tb_T4) rfl (tb_GV tb_w119 tb_w120 tb_w121 tb_w17 tb_w122) ⟨by decide, by decide, by decide +kernel⟩ (by decide)
theorem tb_v0_21 (cc : ByteArray) : sm_Cal tb_cl tb_N cc "ProgramSlices" tb_W (.invokevirtual 147) (tb_ys 98) (tb_ws 98) 4 (dp_rcO 10) := sm_cal_V (ci := 9) (N0 := 4) (T0 := tb_T9) rfl (tb_GV tb_w123 tb_w124 tb_w125 tb_w33 tb_w126) ⟨by decide, by decide, by decide +kernel⟩ (by decide)
theorem tb_v0_22 (cc : ByteArray) : sm_Cal tb_cl tb_N cc "ProgramSlices" tb_W (.invokevirtual 151) (tb_ys 100) (tb_ws 100) 1 (dp_rcO 10) := sm_cal_V (ci := 9) (N0 := 4) (T0 := tb_T9) rfl (tb_GV tb_w127 tb_w128 tb_w129 tb_w33 tb_w130) ⟨by decide, by decide, by decide +kernel⟩ (by decide)
theorem tb_v0_23 (cc : ByteArray) : sm_Cal tb_cl tb_N cc "ProgramSlices" tb_W (.invokevirtual 154) (tb_ys 102) (tb_ws 102) 1 (dp_rcO 10) := sm_cal_V (ci := 9) (N0 := 4) (T0 := tb_T9) rfl (tb_GV tb_w131 tb_w132 tb_w133 tb_w33 tb_w134) ⟨by decide, by decide, by decide +kernel⟩ (by decide)
theorem tb_v0_24 (cc : ByteArray) : sm_Cal tb_cl tb_N cc "ProgramSlices" tb_W (.invokevirtual 157) (tb_ys 103) (tb_ws 103) 3 (dp_rcO 10) := sm_cal_V (ci := 9) (N0 := 4) (T0 := tb_T9) rfl (tb_GV tb_w135 tb_w136 tb_w137 tb_w33 tb_w138) ⟨by decide, by decide, by decide +kernel⟩ (by decide)
theorem tb_v0_25 (cc : ByteArray) : sm_Cal tb_cl tb_N cc "ProgramSlices" tb_W (.invokevirtual 161) (tb_ys 107) (tb_ws 107) 1 (dp_rcO 10) := sm_cal_V (ci := 9) (N0 := 4) (T0 := tb_T9) rfl (tb_GV tb_w139 tb_w140 tb_w141 tb_w33 tb_w142) ⟨by decide, by decide, by decide +kernel⟩ (by decide)
theorem tb_v0_26 (cc : ByteArray) : sm_Cal tb_cl tb_N cc "ProgramSlices" tb_W (.invokevirtual 164) (tb_ys 45) (tb_ws 45) 2 (dp_rcO 2) := sm_cal_V (ci := 1) (N0 := 14) (T0 := tb_T1) rfl (tb_GV tb_w143 tb_w144 tb_w145 tb_w10 tb_w146) ⟨by decide, by decide, by decide +kernel⟩ (by decide)
theorem tb_v0_27 (cc : ByteArray) : sm_Cal tb_cl tb_N cc "ProgramSlices" tb_W (.invokevirtual 167) (tb_ys 108) (tb_ws 108) 1 (dp_rcO 10) := sm_cal_V (ci := 9) (N0 := 4) (T0 := tb_T9) rfl (tb_GV tb_w147 tb_w148 tb_w149 tb_w33 tb_w150) ⟨by decide, by decide, by decide +kernel⟩ (by decide)
theorem tb_v0_28 (cc : ByteArray) : sm_Cal tb_cl tb_N cc "ProgramSlices" tb_W (.invokevirtual 174) (tb_ys 110) (tb_ws 110) 3 (dp_rcO 6) := sm_cal_V (ci := 5) (N0 := 15) (T0 := tb_T5) rfl (tb_GV tb_w154 tb_w155 tb_w156 tb_w21 tb_w157) ⟨by decide, by decide, by decide +kernel⟩ (by decide)
theorem tb_v0_29 (cc : ByteArray) : sm_Cal tb_cl tb_N cc "ProgramSlices" tb_W (.invokevirtual 177) (tb_ys 112) (tb_ws 112) 1 (dp_rcO 10) := sm_cal_V (ci := 9) (N0 := 4) (T0 := tb_T9) rfl (tb_GV tb_w158 tb_w159 tb_w160 tb_w33 tb_w161) ⟨by decide, by decide, by decide +kernel⟩ (by decide)
theorem tb_v0_30 (cc : ByteArray) : sm_Cal tb_cl tb_N cc "ProgramSlices" tb_W (.invokevirtual 180) (tb_ys 113) (tb_ws 113) 4 (dp_rcO 6) := sm_cal_V (ci := 5) (N0 := 15) (T0 := tb_T5) rfl (tb_GV tb_w162 tb_w163 tb_w164 tb_w21 tb_w165) ⟨by decide, by decide, by decide +kernel⟩ (by decide)
theorem tb_v0_31 (cc : ByteArray) : sm_Cal tb_cl tb_N cc "ProgramSlices" tb_W (.invokevirtual 184) (tb_ys 129) (tb_ws 129) 1 (dp_rcO 6) := sm_cal_V (ci := 5) (N0 := 15) (T0 := tb_T5) rfl (tb_GV tb_w166 tb_w167 tb_w168 tb_w21 tb_w169) ⟨by decide, by decide, by decide +kernel⟩ (by decide)
theorem tb_v0_32 (cc : ByteArray) : sm_Cal tb_cl tb_N cc "ProgramSlices" tb_W (.invokevirtual 191) (tb_ys 131) (tb_ws 131) 2 (dp_rcO 7) := sm_cal_V (ci := 6) (N0 := 4) (T0 := tb_T6) rfl (tb_GV tb_w170 tb_w171 tb_w172 tb_w173 tb_w174) ⟨by decide, by decide, by decide +kernel⟩ (by decide)
theorem tb_v0_33 (cc : ByteArray) : sm_Cal tb_cl tb_N cc "ProgramSlices" tb_W (.invokevirtual 196) (tb_ys 133) (tb_ws 133) 3 (dp_rcO 7) := sm_cal_V (ci := 6) (N0 := 4) (T0 := tb_T6) rfl (tb_GV tb_w175 tb_w176 tb_w177 tb_w173 tb_w178) ⟨by decide, by decide, by decide +kernel⟩ (by decide)
theorem tb_v0_34 (cc : ByteArray) : sm_Cal tb_cl tb_N cc "ProgramSlices" tb_W (.invokevirtual 199) (tb_ys 135) (tb_ws 135) 1 (dp_rcO 1) := sm_cal_V (ci := 0) (N0 := 8) (T0 := tb_T0) rfl (tb_GV tb_w179 tb_w180 tb_w181 tb_w89 tb_w182) ⟨by decide, by decide, by decide +kernel⟩ (by decide)
theorem tb_v0_35 (cc : ByteArray) : sm_Cal tb_cl tb_N cc "ProgramSlices" tb_W (.invokevirtual 202) (tb_ys 136) (tb_ws 136) 1 (dp_rcO 9) := sm_cal_V (ci := 8) (N0 := 3) (T0 := tb_T8) rfl (tb_GV tb_w183 tb_w184 tb_w185 tb_w29 tb_w186) ⟨by decide, by decide, by decide +kernel⟩ (by decide)
theorem tb_v0_36 (cc : ByteArray) : sm_Cal tb_cl tb_N cc "ProgramSlices" tb_W (.invokevirtual 205) (tb_ys 141) (tb_ws 141) 2 (dp_rcO 9) := sm_cal_V (ci := 8) (N0 := 3) (T0 := tb_T8) rfl (tb_GV tb_w187 tb_w188 tb_w189 tb_w29 tb_w190) ⟨by decide, by decide, by decide +kernel⟩ (by decide)
theorem tb_v0_ok : ∀ e ∈ tb_v0, ∀ cc, sm_Cal tb_cl tb_N cc "ProgramSlices" tb_W (.invokevirtual e.1) (tb_ys e.2.1) (tb_ws e.2.1) e.2.2.1 (dp_rcO e.2.2.2) := List.forall_mem_cons.mpr ⟨tb_v0_0, List.forall_mem_cons.mpr ⟨tb_v0_1, List.forall_mem_cons.mpr ⟨tb_v0_2, List.forall_mem_cons.mpr ⟨tb_v0_3, List.forall_mem_cons.mpr ⟨tb_v0_4, List.forall_mem_cons.mpr ⟨tb_v0_5, List.forall_mem_cons.mpr ⟨tb_v0_6, List.forall_mem_cons.mpr ⟨tb_v0_7, List.forall_mem_cons.mpr ⟨tb_v0_8, List.forall_mem_cons.mpr ⟨tb_v0_9, List.forall_mem_cons.mpr ⟨tb_v0_10, List.forall_mem_cons.mpr ⟨tb_v0_11, List.forall_mem_cons.mpr ⟨tb_v0_12, List.forall_mem_cons.mpr ⟨tb_v0_13, List.forall_mem_cons.mpr ⟨tb_v0_14, List.forall_mem_cons.mpr ⟨tb_v0_15, List.forall_mem_cons.mpr ⟨tb_v0_16, List.forall_mem_cons.mpr ⟨tb_v0_17, List.forall_mem_cons.mpr ⟨tb_v0_18, List.forall_mem_cons.mpr ⟨tb_v0_19, List.forall_mem_cons.mpr ⟨tb_v0_20, List.forall_mem_cons.mpr ⟨tb_v0_21, List.forall_mem_cons.mpr ⟨tb_v0_22, List.forall_mem_cons.mpr ⟨tb_v0_23, List.forall_mem_cons.mpr ⟨tb_v0_24, List.forall_mem_cons.mpr ⟨tb_v0_25, List.forall_mem_cons.mpr ⟨tb_v0_26, List.forall_mem_cons.mpr ⟨tb_v0_27, List.forall_mem_cons.mpr ⟨tb_v0_28, List.forall_mem_cons.mpr ⟨tb_v0_29, List.forall_mem_cons.mpr ⟨tb_v0_30, List.forall_mem_cons.mpr ⟨tb_v0_31, List.forall_mem_cons.mpr ⟨tb_v0_32, List.forall_mem_cons.mpr ⟨tb_v0_33, List.forall_mem_cons.mpr ⟨tb_v0_34, List.forall_mem_cons.mpr ⟨tb_v0_35, List.forall_mem_cons.mpr ⟨tb_v0_36, fun _ h => absurd h List.not_mem_nil⟩⟩⟩⟩⟩⟩⟩⟩⟩⟩⟩⟩⟩⟩⟩⟩⟩⟩⟩⟩⟩⟩⟩⟩⟩⟩⟩⟩⟩⟩⟩⟩⟩⟩⟩⟩⟩
def tb_i0 : List (Nat × Nat × Nat × Nat) := [(11, 1, 1, 2), (18, 2, 2, 3), (27, 4, 3, 5), (36, 5, 2, 6), (43, 7, 1, 8), (50, 8, 3, 9), (59, 9, 1, 10)]
theorem tb_i0_0 (cc : ByteArray) : sm_Cal tb_cl tb_N cc "ProgramSlices" tb_W (.invokespecial 11) (tb_ys 1) (tb_ws 1) 1 (dp_rcO 2) := sm_cal_IN (ret' := none) (host := "ProgramSlices") (ci := 1) (tb_G tb_w9) tb_w10 (tb_inn (i := 24) (by decide +kernel) rfl) tb_w11 rfl ⟨by decide, by decide, by decide +kernel⟩ (by decide)
theorem tb_i0_1 (cc : ByteArray) : sm_Cal tb_cl tb_N cc "ProgramSlices" tb_W (.invokespecial 18) (tb_ys 2) (tb_ws 2) 2 (dp_rcO 3) := sm_cal_I (ret' := none) (ci := 2) (tb_G tb_w12) tb_w13 tb_w14 tb_w15 rfl ⟨by decide, by decide, by decide +kernel⟩ (by decide)
theorem tb_i0_2 (cc : ByteArray) : sm_Cal tb_cl tb_N cc "ProgramSlices" tb_W (.invokespecial 27) (tb_ys 4) (tb_ws 4) 3 (dp_rcO 5) := sm_cal_I (ret' := none) (ci := 4) (tb_G tb_w16) tb_w17 tb_w18 tb_w19 rfl ⟨by decide, by decide, by decide +kernel⟩ (by decide)
theorem tb_i0_3 (cc : ByteArray) : sm_Cal tb_cl tb_N cc "ProgramSlices" tb_W (.invokespecial 36) (tb_ys 5) (tb_ws 5) 2 (dp_rcO 6) := sm_cal_I (ret' := none) (ci := 5) (tb_G tb_w20) tb_w21 tb_w22 tb_w23 rfl ⟨by decide, by decide, by decide +kernel⟩ (by decide)
theorem tb_i0_4 (cc : ByteArray) : sm_Cal tb_cl tb_N cc "ProgramSlices" tb_W (.invokespecial 43) (tb_ys 7) (tb_ws 7) 1 (dp_rcO 8) := sm_cal_I (ret' := none) (ci := 7) (tb_G tb_w24) tb_w25 tb_w26 tb_w27 rfl ⟨by decide, by decide, by decide +kernel⟩ (by decide)
theorem tb_i0_5 (cc : ByteArray) : sm_Cal tb_cl tb_N cc "ProgramSlices" tb_W (.invokespecial 50) (tb_ys 8) (tb_ws 8) 3 (dp_rcO 9) := sm_cal_I (ret' := none) (ci := 8) (tb_G tb_w28) tb_w29 tb_w30 tb_w31 rfl ⟨by decide, by decide, by decide +kernel⟩ (by decide)
theorem tb_i0_6 (cc : ByteArray) : sm_Cal tb_cl tb_N cc "ProgramSlices" tb_W (.invokespecial 59) (tb_ys 9) (tb_ws 9) 1 (dp_rcO 10) := sm_cal_IN (ret' := none) (host := "ProgramSlices") (ci := 9) (tb_G tb_w32) tb_w33 (tb_inn (i := 286) (by decide +kernel) rfl) tb_w34 rfl ⟨by decide, by decide, by decide +kernel⟩ (by decide)
theorem tb_i0_ok : ∀ e ∈ tb_i0, ∀ cc, sm_Cal tb_cl tb_N cc "ProgramSlices" tb_W (.invokespecial e.1) (tb_ys e.2.1) (tb_ws e.2.1) e.2.2.1 (dp_rcO e.2.2.2) := List.forall_mem_cons.mpr ⟨tb_i0_0, List.forall_mem_cons.mpr ⟨tb_i0_1, List.forall_mem_cons.mpr ⟨tb_i0_2, List.forall_mem_cons.mpr ⟨tb_i0_3, List.forall_mem_cons.mpr ⟨tb_i0_4, List.forall_mem_cons.mpr ⟨tb_i0_5, List.forall_mem_cons.mpr ⟨tb_i0_6, fun _ h => absurd h List.not_mem_nil⟩⟩⟩⟩⟩⟩⟩
def tb_e0 : List (Nat × Nat × List (Option (Option Nat))) := [(9, 1, [some none, some none, some none, some none, none, some none, some none, some none, some none, some none, some none, none, some none, none]), (16, 2, [some none, some none, some none, some none, some none, some none, some none]), (25, 4, [some none, some none, some none, some none, none]), (34, 5, [some none, some none, some none, some none, some none, some none, some none, none, none, none, none, none, none, none, none]), (41, 7, [none, some none, some none, some none]), (48, 8, [some none, some none, some none]), (57, 9, [some none, none, none, none])]
theorem tb_e0_0 : dp_nok tb_cl "ProgramSlices" tb_W 9 (1, [some none, some none, some none, some none, none, some none, some none, some none, some none, some none, some none, none, some none, none]) := ⟨"ProgramSlices$Code", tb_T1, tb_t1, rfl, tb_u1, tb_y1, tb_w191, tb_w192, tb_w10, by
  intro j hj ad
  have hj : j < 14 := hj
  rcases (show j = 0 ∨ j = 1 ∨ j = 2 ∨ j = 3 ∨ j = 4 ∨ j = 5 ∨ j = 6 ∨ j = 7 ∨ j = 8 ∨ j = 9 ∨ j = 10 ∨ j = 11 ∨ j = 12 ∨ j = 13 by omega) with rfl | rfl | rfl | rfl | rfl | rfl | rfl | rfl | rfl | rfl | rfl | rfl | rfl | rfl <;> rfl, fun _ _ => rfl⟩
theorem tb_e0_1 : dp_nok tb_cl "ProgramSlices" tb_W 16 (2, [some none, some none, some none, some none, some none, some none, some none]) := ⟨"ProgramSlices$Dependences", tb_T2, tb_t2, rfl, tb_u2, tb_y2, tb_w193, tb_w194, tb_w13, by
  intro j hj ad
  have hj : j < 7 := hj
  rcases (show j = 0 ∨ j = 1 ∨ j = 2 ∨ j = 3 ∨ j = 4 ∨ j = 5 ∨ j = 6 by omega) with rfl | rfl | rfl | rfl | rfl | rfl | rfl <;> rfl, fun _ _ => rfl⟩
theorem tb_e0_2 : dp_nok tb_cl "ProgramSlices" tb_W 25 (4, [some none, some none, some none, some none, none]) := ⟨"ProgramSlices$Walk", tb_T4, tb_t4, rfl, tb_u4, tb_y4, tb_w195, tb_w196, tb_w17, by
  intro j hj ad
  have hj : j < 5 := hj
  rcases (show j = 0 ∨ j = 1 ∨ j = 2 ∨ j = 3 ∨ j = 4 by omega) with rfl | rfl | rfl | rfl | rfl <;> rfl, fun _ _ => rfl⟩
theorem tb_e0_3 : dp_nok tb_cl "ProgramSlices" tb_W 34 (5, [some none, some none, some none, some none, some none, some none, some none, none, none, none, none, none, none, none, none]) := ⟨"ProgramSlices$Machine", tb_T5, tb_t5, rfl, tb_u5, tb_y5, tb_w197, tb_w198, tb_w21, by
  intro j hj ad
  have hj : j < 15 := hj
  rcases (show j = 0 ∨ j = 1 ∨ j = 2 ∨ j = 3 ∨ j = 4 ∨ j = 5 ∨ j = 6 ∨ j = 7 ∨ j = 8 ∨ j = 9 ∨ j = 10 ∨ j = 11 ∨ j = 12 ∨ j = 13 ∨ j = 14 by omega) with rfl | rfl | rfl | rfl | rfl | rfl | rfl | rfl | rfl | rfl | rfl | rfl | rfl | rfl | rfl <;> rfl, fun _ _ => rfl⟩
theorem tb_e0_4 : dp_nok tb_cl "ProgramSlices" tb_W 41 (7, [none, some none, some none, some none]) := ⟨"ProgramSlices$Order", tb_T7, tb_t7, rfl, tb_u7, tb_y7, tb_w199, tb_w200, tb_w25, by
  intro j hj ad
  have hj : j < 4 := hj
  rcases (show j = 0 ∨ j = 1 ∨ j = 2 ∨ j = 3 by omega) with rfl | rfl | rfl | rfl <;> rfl, fun _ _ => rfl⟩
theorem tb_e0_5 : dp_nok tb_cl "ProgramSlices" tb_W 48 (8, [some none, some none, some none]) := ⟨"ProgramSlices$Flows", tb_T8, tb_t8, rfl, tb_u8, tb_y8, tb_w201, tb_w202, tb_w29, by
  intro j hj ad
  have hj : j < 3 := hj
  rcases (show j = 0 ∨ j = 1 ∨ j = 2 by omega) with rfl | rfl | rfl <;> rfl, fun _ _ => rfl⟩
theorem tb_e0_6 : dp_nok tb_cl "ProgramSlices" tb_W 57 (9, [some none, none, none, none]) := ⟨"ProgramSlices$Slice", tb_T9, tb_t9, rfl, tb_u9, tb_y9, tb_w203, tb_w204, tb_w33, by
  intro j hj ad
  have hj : j < 4 := hj
  rcases (show j = 0 ∨ j = 1 ∨ j = 2 ∨ j = 3 by omega) with rfl | rfl | rfl | rfl <;> rfl, fun _ _ => rfl⟩
theorem tb_e0_ok : ∀ e ∈ tb_e0, dp_nok tb_cl "ProgramSlices" tb_W e.1 e.2 := List.forall_mem_cons.mpr ⟨tb_e0_0, List.forall_mem_cons.mpr ⟨tb_e0_1, List.forall_mem_cons.mpr ⟨tb_e0_2, List.forall_mem_cons.mpr ⟨tb_e0_3, List.forall_mem_cons.mpr ⟨tb_e0_4, List.forall_mem_cons.mpr ⟨tb_e0_5, List.forall_mem_cons.mpr ⟨tb_e0_6, fun _ h => absurd h List.not_mem_nil⟩⟩⟩⟩⟩⟩⟩
def tb_K0 : dp_K := (dp_lk tb_f0, dp_lk tb_c0, dp_lk tb_l0, fun i => match i % 3 with
  | 0 => dp_lk tb_s0 (i / 3)
  | 1 => dp_lk tb_v0 (i / 3)
  | _ => dp_lk tb_i0 (i / 3), dp_lk tb_e0, 3)
theorem tb_K0_ok : dp_Kok tb_cl tb_N "ProgramSlices" tb_W tb_ys tb_ws tb_K0 := by
  refine ⟨fun i F h => tb_f0_ok _ (dp_lk_mem h), fun i v h => tb_c0_ok _ (dp_lk_mem h), fun i v h => tb_l0_ok _ (dp_lk_mem h), fun i C h cc => ?_, fun i C h cc => ?_, fun i C h cc => ?_, fun i C h => tb_e0_ok _ (dp_lk_mem h), ⟨tb_w205, tb_w206, tb_w207⟩, tb_w208, tb_w209, tb_w210⟩
  · have h : dp_lk tb_s0 i = some C := by
      have e1 : 3 * i % 3 = 0 := by omega
      have e2 : 3 * i / 3 = i := by omega
      simpa [tb_K0, e1, e2] using h
    exact tb_s0_ok _ (dp_lk_mem h) cc
  · have h : dp_lk tb_v0 i = some C := by
      have e1 : (3 * i + 1) % 3 = 1 := by omega
      have e2 : (3 * i + 1) / 3 = i := by omega
      simpa [tb_K0, e1, e2] using h
    exact tb_v0_ok _ (dp_lk_mem h) cc
  · have h : dp_lk tb_i0 i = some C := by
      have e1 : (3 * i + 2) % 3 = 2 := by omega
      have e2 : (3 * i + 2) / 3 = i := by omega
      simpa [tb_K0, e1, e2] using h
    exact tb_i0_ok _ (dp_lk_mem h) cc
def tb_f1 : List (Nat × Nat × Nat × Nat) := [(9, 1, 0, 2), (15, 1, 1, 2), (18, 1, 2, 2), (21, 1, 3, 2), (45, 1, 4, 0), (24, 1, 5, 2), (27, 1, 6, 2), (30, 1, 7, 2), (33, 1, 8, 2), (36, 1, 9, 2), (39, 1, 10, 2), (71, 1, 11, 0), (42, 1, 12, 2), (68, 1, 13, 0)]
theorem tb_f1_0 : dp_fok tb_cl tb_N "ProgramSlices$Code" tb_W 9 (1, 0, 2) := ⟨"ProgramSlices$Code", tb_T1, 14, tb_t1, rfl, by decide, tb_u1, tb_y1, tb_n1, Or.inl tb_w211, fun h => absurd h (by decide), fun h => absurd h (by decide), fun _ => ⟨rfl, rfl, tb_w211, fun _ => ⟨rfl, rfl⟩⟩⟩
theorem tb_f1_1 : dp_fok tb_cl tb_N "ProgramSlices$Code" tb_W 15 (1, 1, 2) := ⟨"ProgramSlices$Code", tb_T1, 14, tb_t1, rfl, by decide, tb_u1, tb_y1, tb_n1, Or.inl tb_w212, fun h => absurd h (by decide), fun h => absurd h (by decide), fun _ => ⟨rfl, rfl, tb_w212, fun _ => ⟨rfl, rfl⟩⟩⟩
theorem tb_f1_2 : dp_fok tb_cl tb_N "ProgramSlices$Code" tb_W 18 (1, 2, 2) := ⟨"ProgramSlices$Code", tb_T1, 14, tb_t1, rfl, by decide, tb_u1, tb_y1, tb_n1, Or.inl tb_w213, fun h => absurd h (by decide), fun h => absurd h (by decide), fun _ => ⟨rfl, rfl, tb_w213, fun _ => ⟨rfl, rfl⟩⟩⟩
theorem tb_f1_3 : dp_fok tb_cl tb_N "ProgramSlices$Code" tb_W 21 (1, 3, 2) := ⟨"ProgramSlices$Code", tb_T1, 14, tb_t1, rfl, by decide, tb_u1, tb_y1, tb_n1, Or.inl tb_w214, fun h => absurd h (by decide), fun h => absurd h (by decide), fun _ => ⟨rfl, rfl, tb_w214, fun _ => ⟨rfl, rfl⟩⟩⟩
theorem tb_f1_4 : dp_fok tb_cl tb_N "ProgramSlices$Code" tb_W 45 (1, 4, 0) := ⟨"ProgramSlices$Code", tb_T1, 14, tb_t1, rfl, by decide, tb_u1, tb_y1, tb_n1, Or.inl tb_w215, fun _ => ⟨rfl, rfl⟩, fun h => absurd h (by decide), fun h => absurd h (by decide)⟩
theorem tb_f1_5 : dp_fok tb_cl tb_N "ProgramSlices$Code" tb_W 24 (1, 5, 2) := ⟨"ProgramSlices$Code", tb_T1, 14, tb_t1, rfl, by decide, tb_u1, tb_y1, tb_n1, Or.inl tb_w216, fun h => absurd h (by decide), fun h => absurd h (by decide), fun _ => ⟨rfl, rfl, tb_w216, fun _ => ⟨rfl, rfl⟩⟩⟩
theorem tb_f1_6 : dp_fok tb_cl tb_N "ProgramSlices$Code" tb_W 27 (1, 6, 2) := ⟨"ProgramSlices$Code", tb_T1, 14, tb_t1, rfl, by decide, tb_u1, tb_y1, tb_n1, Or.inl tb_w217, fun h => absurd h (by decide), fun h => absurd h (by decide), fun _ => ⟨rfl, rfl, tb_w217, fun _ => ⟨rfl, rfl⟩⟩⟩
theorem tb_f1_7 : dp_fok tb_cl tb_N "ProgramSlices$Code" tb_W 30 (1, 7, 2) := ⟨"ProgramSlices$Code", tb_T1, 14, tb_t1, rfl, by decide, tb_u1, tb_y1, tb_n1, Or.inl tb_w218, fun h => absurd h (by decide), fun h => absurd h (by decide), fun _ => ⟨rfl, rfl, tb_w218, fun _ => ⟨rfl, rfl⟩⟩⟩
theorem tb_f1_8 : dp_fok tb_cl tb_N "ProgramSlices$Code" tb_W 33 (1, 8, 2) := ⟨"ProgramSlices$Code", tb_T1, 14, tb_t1, rfl, by decide, tb_u1, tb_y1, tb_n1, Or.inl tb_w219, fun h => absurd h (by decide), fun h => absurd h (by decide), fun _ => ⟨rfl, rfl, tb_w219, fun _ => ⟨rfl, rfl⟩⟩⟩
theorem tb_f1_9 : dp_fok tb_cl tb_N "ProgramSlices$Code" tb_W 36 (1, 9, 2) := ⟨"ProgramSlices$Code", tb_T1, 14, tb_t1, rfl, by decide, tb_u1, tb_y1, tb_n1, Or.inl tb_w220, fun h => absurd h (by decide), fun h => absurd h (by decide), fun _ => ⟨rfl, rfl, tb_w220, fun _ => ⟨rfl, rfl⟩⟩⟩
theorem tb_f1_10 : dp_fok tb_cl tb_N "ProgramSlices$Code" tb_W 39 (1, 10, 2) := ⟨"ProgramSlices$Code", tb_T1, 14, tb_t1, rfl, by decide, tb_u1, tb_y1, tb_n1, Or.inl tb_w221, fun h => absurd h (by decide), fun h => absurd h (by decide), fun _ => ⟨rfl, rfl, tb_w221, fun _ => ⟨rfl, rfl⟩⟩⟩
theorem tb_f1_11 : dp_fok tb_cl tb_N "ProgramSlices$Code" tb_W 71 (1, 11, 0) := ⟨"ProgramSlices$Code", tb_T1, 14, tb_t1, rfl, by decide, tb_u1, tb_y1, tb_n1, Or.inl tb_w222, fun _ => ⟨rfl, rfl⟩, fun h => absurd h (by decide), fun h => absurd h (by decide)⟩
theorem tb_f1_12 : dp_fok tb_cl tb_N "ProgramSlices$Code" tb_W 42 (1, 12, 2) := ⟨"ProgramSlices$Code", tb_T1, 14, tb_t1, rfl, by decide, tb_u1, tb_y1, tb_n1, Or.inl tb_w223, fun h => absurd h (by decide), fun h => absurd h (by decide), fun _ => ⟨rfl, rfl, tb_w223, fun _ => ⟨rfl, rfl⟩⟩⟩
theorem tb_f1_13 : dp_fok tb_cl tb_N "ProgramSlices$Code" tb_W 68 (1, 13, 0) := ⟨"ProgramSlices$Code", tb_T1, 14, tb_t1, rfl, by decide, tb_u1, tb_y1, tb_n1, Or.inl tb_w224, fun _ => ⟨rfl, rfl⟩, fun h => absurd h (by decide), fun h => absurd h (by decide)⟩
theorem tb_f1_ok : ∀ e ∈ tb_f1, dp_fok tb_cl tb_N "ProgramSlices$Code" tb_W e.1 e.2 := List.forall_mem_cons.mpr ⟨tb_f1_0, List.forall_mem_cons.mpr ⟨tb_f1_1, List.forall_mem_cons.mpr ⟨tb_f1_2, List.forall_mem_cons.mpr ⟨tb_f1_3, List.forall_mem_cons.mpr ⟨tb_f1_4, List.forall_mem_cons.mpr ⟨tb_f1_5, List.forall_mem_cons.mpr ⟨tb_f1_6, List.forall_mem_cons.mpr ⟨tb_f1_7, List.forall_mem_cons.mpr ⟨tb_f1_8, List.forall_mem_cons.mpr ⟨tb_f1_9, List.forall_mem_cons.mpr ⟨tb_f1_10, List.forall_mem_cons.mpr ⟨tb_f1_11, List.forall_mem_cons.mpr ⟨tb_f1_12, List.forall_mem_cons.mpr ⟨tb_f1_13, fun _ h => absurd h List.not_mem_nil⟩⟩⟩⟩⟩⟩⟩⟩⟩⟩⟩⟩⟩⟩
def tb_c1 : List (Nat × Int32) := []
theorem tb_c1_ok : ∀ e ∈ tb_c1, Jvm.Cond.constant "ProgramSlices$Code" e.1 e.2 ∈ tb_W := fun _ h => absurd h List.not_mem_nil
def tb_l1 : List (Nat × Int64) := []
theorem tb_l1_ok : ∀ e ∈ tb_l1, Jvm.Cond.constantLong "ProgramSlices$Code" e.1 e.2 ∈ tb_W := fun _ h => absurd h List.not_mem_nil
def tb_s1 : List (Nat × Nat × Nat × Nat) := [(49, 13, 1, 0), (62, 14, 1, 0), (53, 15, 1, 0), (56, 16, 1, 0), (59, 17, 1, 0)]
theorem tb_s1_0 (cc : ByteArray) : sm_Cal tb_cl tb_N cc "ProgramSlices$Code" tb_W (.invokestatic 49) (tb_ys 13) (tb_ws 13) 1 (dp_rcO 0) := sm_cal_S (tb_GS tb_w225 tb_w226 tb_w10 tb_w227) ⟨by decide, by decide, by decide +kernel⟩ (by decide)
theorem tb_s1_1 (cc : ByteArray) : sm_Cal tb_cl tb_N cc "ProgramSlices$Code" tb_W (.invokestatic 62) (tb_ys 14) (tb_ws 14) 1 (dp_rcO 0) := sm_cal_S (tb_GS tb_w228 tb_w229 tb_w10 tb_w230) ⟨by decide, by decide, by decide +kernel⟩ (by decide)
theorem tb_s1_2 (cc : ByteArray) : sm_Cal tb_cl tb_N cc "ProgramSlices$Code" tb_W (.invokestatic 53) (tb_ys 15) (tb_ws 15) 1 (dp_rcO 0) := sm_cal_SN (host := "ProgramSlices") (tb_G tb_w90) tb_w88 tb_w89 (tb_inn (i := 346) (by decide +kernel) rfl) ⟨by decide, by decide, by decide +kernel⟩ (by decide)
theorem tb_s1_3 (cc : ByteArray) : sm_Cal tb_cl tb_N cc "ProgramSlices$Code" tb_W (.invokestatic 56) (tb_ys 16) (tb_ws 16) 1 (dp_rcO 0) := sm_cal_S (tb_GS tb_w231 tb_w232 tb_w10 tb_w233) ⟨by decide, by decide, by decide +kernel⟩ (by decide)
theorem tb_s1_4 (cc : ByteArray) : sm_Cal tb_cl tb_N cc "ProgramSlices$Code" tb_W (.invokestatic 59) (tb_ys 17) (tb_ws 17) 1 (dp_rcO 0) := sm_cal_S (tb_GS tb_w234 tb_w235 tb_w10 tb_w236) ⟨by decide, by decide, by decide +kernel⟩ (by decide)
theorem tb_s1_ok : ∀ e ∈ tb_s1, ∀ cc, sm_Cal tb_cl tb_N cc "ProgramSlices$Code" tb_W (.invokestatic e.1) (tb_ys e.2.1) (tb_ws e.2.1) e.2.2.1 (dp_rcO e.2.2.2) := List.forall_mem_cons.mpr ⟨tb_s1_0, List.forall_mem_cons.mpr ⟨tb_s1_1, List.forall_mem_cons.mpr ⟨tb_s1_2, List.forall_mem_cons.mpr ⟨tb_s1_3, List.forall_mem_cons.mpr ⟨tb_s1_4, fun _ h => absurd h List.not_mem_nil⟩⟩⟩⟩⟩
def tb_v1 : List (Nat × Nat × Nat × Nat) := [(74, 27, 2, 2), (81, 28, 2, 2), (84, 29, 3, 2), (88, 30, 3, 2), (91, 31, 2, 2), (77, 32, 1, 2), (94, 33, 2, 2), (97, 34, 2, 2), (65, 45, 2, 2)]
theorem tb_v1_0 (cc : ByteArray) : sm_Cal tb_cl tb_N cc "ProgramSlices$Code" tb_W (.invokevirtual 74) (tb_ys 27) (tb_ws 27) 2 (dp_rcO 2) := sm_cal_V (ci := 1) (N0 := 14) (T0 := tb_T1) rfl (tb_GV tb_w237 tb_w238 tb_w239 tb_w10 tb_w240) ⟨by decide, by decide, by decide +kernel⟩ (by decide)
theorem tb_v1_1 (cc : ByteArray) : sm_Cal tb_cl tb_N cc "ProgramSlices$Code" tb_W (.invokevirtual 81) (tb_ys 28) (tb_ws 28) 2 (dp_rcO 2) := sm_cal_V (ci := 1) (N0 := 14) (T0 := tb_T1) rfl (tb_GV tb_w241 tb_w242 tb_w243 tb_w10 tb_w244) ⟨by decide, by decide, by decide +kernel⟩ (by decide)
theorem tb_v1_2 (cc : ByteArray) : sm_Cal tb_cl tb_N cc "ProgramSlices$Code" tb_W (.invokevirtual 84) (tb_ys 29) (tb_ws 29) 3 (dp_rcO 2) := sm_cal_V (ci := 1) (N0 := 14) (T0 := tb_T1) rfl (tb_GV tb_w245 tb_w246 tb_w247 tb_w10 tb_w248) ⟨by decide, by decide, by decide +kernel⟩ (by decide)
theorem tb_v1_3 (cc : ByteArray) : sm_Cal tb_cl tb_N cc "ProgramSlices$Code" tb_W (.invokevirtual 88) (tb_ys 30) (tb_ws 30) 3 (dp_rcO 2) := sm_cal_V (ci := 1) (N0 := 14) (T0 := tb_T1) rfl (tb_GV tb_w249 tb_w250 tb_w251 tb_w10 tb_w252) ⟨by decide, by decide, by decide +kernel⟩ (by decide)
theorem tb_v1_4 (cc : ByteArray) : sm_Cal tb_cl tb_N cc "ProgramSlices$Code" tb_W (.invokevirtual 91) (tb_ys 31) (tb_ws 31) 2 (dp_rcO 2) := sm_cal_V (ci := 1) (N0 := 14) (T0 := tb_T1) rfl (tb_GV tb_w253 tb_w254 tb_w255 tb_w10 tb_w256) ⟨by decide, by decide, by decide +kernel⟩ (by decide)
theorem tb_v1_5 (cc : ByteArray) : sm_Cal tb_cl tb_N cc "ProgramSlices$Code" tb_W (.invokevirtual 77) (tb_ys 32) (tb_ws 32) 1 (dp_rcO 2) := sm_cal_V (ci := 1) (N0 := 14) (T0 := tb_T1) rfl (tb_GV tb_w257 tb_w258 tb_w259 tb_w10 tb_w260) ⟨by decide, by decide, by decide +kernel⟩ (by decide)
theorem tb_v1_6 (cc : ByteArray) : sm_Cal tb_cl tb_N cc "ProgramSlices$Code" tb_W (.invokevirtual 94) (tb_ys 33) (tb_ws 33) 2 (dp_rcO 2) := sm_cal_V (ci := 1) (N0 := 14) (T0 := tb_T1) rfl (tb_GV tb_w261 tb_w108 tb_w109 tb_w10 tb_w110) ⟨by decide, by decide, by decide +kernel⟩ (by decide)
theorem tb_v1_7 (cc : ByteArray) : sm_Cal tb_cl tb_N cc "ProgramSlices$Code" tb_W (.invokevirtual 97) (tb_ys 34) (tb_ws 34) 2 (dp_rcO 2) := sm_cal_V (ci := 1) (N0 := 14) (T0 := tb_T1) rfl (tb_GV tb_w262 tb_w112 tb_w113 tb_w10 tb_w114) ⟨by decide, by decide, by decide +kernel⟩ (by decide)
theorem tb_v1_8 (cc : ByteArray) : sm_Cal tb_cl tb_N cc "ProgramSlices$Code" tb_W (.invokevirtual 65) (tb_ys 45) (tb_ws 45) 2 (dp_rcO 2) := sm_cal_V (ci := 1) (N0 := 14) (T0 := tb_T1) rfl (tb_GV tb_w263 tb_w144 tb_w145 tb_w10 tb_w146) ⟨by decide, by decide, by decide +kernel⟩ (by decide)
theorem tb_v1_ok : ∀ e ∈ tb_v1, ∀ cc, sm_Cal tb_cl tb_N cc "ProgramSlices$Code" tb_W (.invokevirtual e.1) (tb_ys e.2.1) (tb_ws e.2.1) e.2.2.1 (dp_rcO e.2.2.2) := List.forall_mem_cons.mpr ⟨tb_v1_0, List.forall_mem_cons.mpr ⟨tb_v1_1, List.forall_mem_cons.mpr ⟨tb_v1_2, List.forall_mem_cons.mpr ⟨tb_v1_3, List.forall_mem_cons.mpr ⟨tb_v1_4, List.forall_mem_cons.mpr ⟨tb_v1_5, List.forall_mem_cons.mpr ⟨tb_v1_6, List.forall_mem_cons.mpr ⟨tb_v1_7, List.forall_mem_cons.mpr ⟨tb_v1_8, fun _ h => absurd h List.not_mem_nil⟩⟩⟩⟩⟩⟩⟩⟩⟩
def tb_i1 : List (Nat × Nat × Nat × Nat) := []
theorem tb_i1_ok : ∀ e ∈ tb_i1, ∀ cc, sm_Cal tb_cl tb_N cc "ProgramSlices$Code" tb_W (.invokespecial e.1) (tb_ys e.2.1) (tb_ws e.2.1) e.2.2.1 (dp_rcO e.2.2.2) := fun _ h => absurd h List.not_mem_nil
def tb_e1 : List (Nat × Nat × List (Option (Option Nat))) := []
theorem tb_e1_ok : ∀ e ∈ tb_e1, dp_nok tb_cl "ProgramSlices$Code" tb_W e.1 e.2 := fun _ h => absurd h List.not_mem_nil
def tb_K1 : dp_K := (dp_lk tb_f1, dp_lk tb_c1, dp_lk tb_l1, fun i => match i % 3 with
  | 0 => dp_lk tb_s1 (i / 3)
  | 1 => dp_lk tb_v1 (i / 3)
  | _ => dp_lk tb_i1 (i / 3), dp_lk tb_e1, 3)
theorem tb_K1_ok : dp_Kok tb_cl tb_N "ProgramSlices$Code" tb_W tb_ys tb_ws tb_K1 := by
  refine ⟨fun i F h => tb_f1_ok _ (dp_lk_mem h), fun i v h => tb_c1_ok _ (dp_lk_mem h), fun i v h => tb_l1_ok _ (dp_lk_mem h), fun i C h cc => ?_, fun i C h cc => ?_, fun i C h cc => ?_, fun i C h => tb_e1_ok _ (dp_lk_mem h), ⟨tb_w264, tb_w206, tb_w207⟩, tb_w208, tb_w209, tb_w210⟩
  · have h : dp_lk tb_s1 i = some C := by
      have e1 : 3 * i % 3 = 0 := by omega
      have e2 : 3 * i / 3 = i := by omega
      simpa [tb_K1, e1, e2] using h
    exact tb_s1_ok _ (dp_lk_mem h) cc
  · have h : dp_lk tb_v1 i = some C := by
      have e1 : (3 * i + 1) % 3 = 1 := by omega
      have e2 : (3 * i + 1) / 3 = i := by omega
      simpa [tb_K1, e1, e2] using h
    exact tb_v1_ok _ (dp_lk_mem h) cc
  · have h : dp_lk tb_i1 i = some C := by
      have e1 : (3 * i + 2) % 3 = 2 := by omega
      have e2 : (3 * i + 2) / 3 = i := by omega
      simpa [tb_K1, e1, e2] using h
    exact tb_i1_ok _ (dp_lk_mem h) cc
def tb_f2 : List (Nat × Nat × Nat × Nat) := [(113, 1, 0, 3), (135, 1, 1, 3), (116, 1, 2, 3), (123, 1, 3, 3), (48, 1, 4, 0), (93, 1, 5, 3), (96, 1, 8, 3), (126, 1, 9, 3), (129, 1, 10, 3), (87, 1, 11, 0), (27, 2, 0, 2), (36, 2, 1, 2), (9, 2, 2, 2), (15, 2, 3, 2), (18, 2, 4, 2), (21, 2, 5, 2), (24, 2, 6, 2)]
theorem tb_f2_0 : dp_fok tb_cl tb_N "ProgramSlices$Dependences" tb_W 113 (1, 0, 3) := ⟨"ProgramSlices$Code", tb_T1, 14, tb_t1, rfl, by decide, tb_u1, tb_y1, tb_n1, Or.inl tb_w265, fun h => absurd h (by decide), fun h => absurd h (by decide), fun h => absurd h (by decide)⟩
theorem tb_f2_1 : dp_fok tb_cl tb_N "ProgramSlices$Dependences" tb_W 135 (1, 1, 3) := ⟨"ProgramSlices$Code", tb_T1, 14, tb_t1, rfl, by decide, tb_u1, tb_y1, tb_n1, Or.inl tb_w266, fun h => absurd h (by decide), fun h => absurd h (by decide), fun h => absurd h (by decide)⟩
theorem tb_f2_2 : dp_fok tb_cl tb_N "ProgramSlices$Dependences" tb_W 116 (1, 2, 3) := ⟨"ProgramSlices$Code", tb_T1, 14, tb_t1, rfl, by decide, tb_u1, tb_y1, tb_n1, Or.inl tb_w267, fun h => absurd h (by decide), fun h => absurd h (by decide), fun h => absurd h (by decide)⟩
theorem tb_f2_3 : dp_fok tb_cl tb_N "ProgramSlices$Dependences" tb_W 123 (1, 3, 3) := ⟨"ProgramSlices$Code", tb_T1, 14, tb_t1, rfl, by decide, tb_u1, tb_y1, tb_n1, Or.inl tb_w268, fun h => absurd h (by decide), fun h => absurd h (by decide), fun h => absurd h (by decide)⟩
theorem tb_f2_4 : dp_fok tb_cl tb_N "ProgramSlices$Dependences" tb_W 48 (1, 4, 0) := ⟨"ProgramSlices$Code", tb_T1, 14, tb_t1, rfl, by decide, tb_u1, tb_y1, tb_n1, Or.inl tb_w269, fun _ => ⟨rfl, rfl⟩, fun h => absurd h (by decide), fun h => absurd h (by decide)⟩
theorem tb_f2_5 : dp_fok tb_cl tb_N "ProgramSlices$Dependences" tb_W 93 (1, 5, 3) := ⟨"ProgramSlices$Code", tb_T1, 14, tb_t1, rfl, by decide, tb_u1, tb_y1, tb_n1, Or.inl tb_w270, fun h => absurd h (by decide), fun h => absurd h (by decide), fun h => absurd h (by decide)⟩
theorem tb_f2_6 : dp_fok tb_cl tb_N "ProgramSlices$Dependences" tb_W 96 (1, 8, 3) := ⟨"ProgramSlices$Code", tb_T1, 14, tb_t1, rfl, by decide, tb_u1, tb_y1, tb_n1, Or.inl tb_w271, fun h => absurd h (by decide), fun h => absurd h (by decide), fun h => absurd h (by decide)⟩
theorem tb_f2_7 : dp_fok tb_cl tb_N "ProgramSlices$Dependences" tb_W 126 (1, 9, 3) := ⟨"ProgramSlices$Code", tb_T1, 14, tb_t1, rfl, by decide, tb_u1, tb_y1, tb_n1, Or.inl tb_w272, fun h => absurd h (by decide), fun h => absurd h (by decide), fun h => absurd h (by decide)⟩
theorem tb_f2_8 : dp_fok tb_cl tb_N "ProgramSlices$Dependences" tb_W 129 (1, 10, 3) := ⟨"ProgramSlices$Code", tb_T1, 14, tb_t1, rfl, by decide, tb_u1, tb_y1, tb_n1, Or.inl tb_w273, fun h => absurd h (by decide), fun h => absurd h (by decide), fun h => absurd h (by decide)⟩
theorem tb_f2_9 : dp_fok tb_cl tb_N "ProgramSlices$Dependences" tb_W 87 (1, 11, 0) := ⟨"ProgramSlices$Code", tb_T1, 14, tb_t1, rfl, by decide, tb_u1, tb_y1, tb_n1, Or.inl tb_w274, fun _ => ⟨rfl, rfl⟩, fun h => absurd h (by decide), fun h => absurd h (by decide)⟩
theorem tb_f2_10 : dp_fok tb_cl tb_N "ProgramSlices$Dependences" tb_W 27 (2, 0, 2) := ⟨"ProgramSlices$Dependences", tb_T2, 7, tb_t2, rfl, by decide, tb_u2, tb_y2, tb_n2, Or.inl tb_w275, fun h => absurd h (by decide), fun h => absurd h (by decide), fun _ => ⟨rfl, rfl, tb_w275, fun _ => ⟨rfl, rfl⟩⟩⟩
theorem tb_f2_11 : dp_fok tb_cl tb_N "ProgramSlices$Dependences" tb_W 36 (2, 1, 2) := ⟨"ProgramSlices$Dependences", tb_T2, 7, tb_t2, rfl, by decide, tb_u2, tb_y2, tb_n2, Or.inl tb_w276, fun h => absurd h (by decide), fun h => absurd h (by decide), fun _ => ⟨rfl, rfl, tb_w276, fun _ => ⟨rfl, rfl⟩⟩⟩
theorem tb_f2_12 : dp_fok tb_cl tb_N "ProgramSlices$Dependences" tb_W 9 (2, 2, 2) := ⟨"ProgramSlices$Dependences", tb_T2, 7, tb_t2, rfl, by decide, tb_u2, tb_y2, tb_n2, Or.inl tb_w277, fun h => absurd h (by decide), fun h => absurd h (by decide), fun _ => ⟨rfl, rfl, tb_w277, fun _ => ⟨rfl, rfl⟩⟩⟩
theorem tb_f2_13 : dp_fok tb_cl tb_N "ProgramSlices$Dependences" tb_W 15 (2, 3, 2) := ⟨"ProgramSlices$Dependences", tb_T2, 7, tb_t2, rfl, by decide, tb_u2, tb_y2, tb_n2, Or.inl tb_w278, fun h => absurd h (by decide), fun h => absurd h (by decide), fun _ => ⟨rfl, rfl, tb_w278, fun _ => ⟨rfl, rfl⟩⟩⟩
theorem tb_f2_14 : dp_fok tb_cl tb_N "ProgramSlices$Dependences" tb_W 18 (2, 4, 2) := ⟨"ProgramSlices$Dependences", tb_T2, 7, tb_t2, rfl, by decide, tb_u2, tb_y2, tb_n2, Or.inl tb_w279, fun h => absurd h (by decide), fun h => absurd h (by decide), fun _ => ⟨rfl, rfl, tb_w279, fun _ => ⟨rfl, rfl⟩⟩⟩
theorem tb_f2_15 : dp_fok tb_cl tb_N "ProgramSlices$Dependences" tb_W 21 (2, 5, 2) := ⟨"ProgramSlices$Dependences", tb_T2, 7, tb_t2, rfl, by decide, tb_u2, tb_y2, tb_n2, Or.inl tb_w280, fun h => absurd h (by decide), fun h => absurd h (by decide), fun _ => ⟨rfl, rfl, tb_w280, fun _ => ⟨rfl, rfl⟩⟩⟩
theorem tb_f2_16 : dp_fok tb_cl tb_N "ProgramSlices$Dependences" tb_W 24 (2, 6, 2) := ⟨"ProgramSlices$Dependences", tb_T2, 7, tb_t2, rfl, by decide, tb_u2, tb_y2, tb_n2, Or.inl tb_w281, fun h => absurd h (by decide), fun h => absurd h (by decide), fun _ => ⟨rfl, rfl, tb_w281, fun _ => ⟨rfl, rfl⟩⟩⟩
theorem tb_f2_ok : ∀ e ∈ tb_f2, dp_fok tb_cl tb_N "ProgramSlices$Dependences" tb_W e.1 e.2 := List.forall_mem_cons.mpr ⟨tb_f2_0, List.forall_mem_cons.mpr ⟨tb_f2_1, List.forall_mem_cons.mpr ⟨tb_f2_2, List.forall_mem_cons.mpr ⟨tb_f2_3, List.forall_mem_cons.mpr ⟨tb_f2_4, List.forall_mem_cons.mpr ⟨tb_f2_5, List.forall_mem_cons.mpr ⟨tb_f2_6, List.forall_mem_cons.mpr ⟨tb_f2_7, List.forall_mem_cons.mpr ⟨tb_f2_8, List.forall_mem_cons.mpr ⟨tb_f2_9, List.forall_mem_cons.mpr ⟨tb_f2_10, List.forall_mem_cons.mpr ⟨tb_f2_11, List.forall_mem_cons.mpr ⟨tb_f2_12, List.forall_mem_cons.mpr ⟨tb_f2_13, List.forall_mem_cons.mpr ⟨tb_f2_14, List.forall_mem_cons.mpr ⟨tb_f2_15, List.forall_mem_cons.mpr ⟨tb_f2_16, fun _ h => absurd h List.not_mem_nil⟩⟩⟩⟩⟩⟩⟩⟩⟩⟩⟩⟩⟩⟩⟩⟩⟩
def tb_c2 : List (Nat × Int32) := []
theorem tb_c2_ok : ∀ e ∈ tb_c2, Jvm.Cond.constant "ProgramSlices$Dependences" e.1 e.2 ∈ tb_W := fun _ h => absurd h List.not_mem_nil
def tb_l2 : List (Nat × Int64) := []
theorem tb_l2_ok : ∀ e ∈ tb_l2, Jvm.Cond.constantLong "ProgramSlices$Dependences" e.1 e.2 ∈ tb_W := fun _ h => absurd h List.not_mem_nil
def tb_s2 : List (Nat × Nat × Nat × Nat) := [(64, 24, 2, 0), (99, 47, 2, 0), (54, 50, 2, 0), (44, 74, 2, 0), (40, 67, 2, 0)]
theorem tb_s2_0 (cc : ByteArray) : sm_Cal tb_cl tb_N cc "ProgramSlices$Dependences" tb_W (.invokestatic 64) (tb_ys 24) (tb_ws 24) 2 (dp_rcO 0) := sm_cal_S (tb_GS tb_w290 tb_w291 tb_w292 tb_w293) ⟨by decide, by decide, by decide +kernel⟩ (by decide)
theorem tb_s2_1 (cc : ByteArray) : sm_Cal tb_cl tb_N cc "ProgramSlices$Dependences" tb_W (.invokestatic 99) (tb_ys 47) (tb_ws 47) 2 (dp_rcO 0) := sm_cal_SN (host := "ProgramSlices") (tb_G tb_w299) tb_w300 tb_w89 (tb_inn (i := 470) (by decide +kernel) rfl) ⟨by decide, by decide, by decide +kernel⟩ (by decide)
theorem tb_s2_2 (cc : ByteArray) : sm_Cal tb_cl tb_N cc "ProgramSlices$Dependences" tb_W (.invokestatic 54) (tb_ys 50) (tb_ws 50) 2 (dp_rcO 0) := sm_cal_SN (host := "ProgramSlices") (tb_G tb_w311) tb_w312 tb_w89 (tb_inn (i := 483) (by decide +kernel) rfl) ⟨by decide, by decide, by decide +kernel⟩ (by decide)
theorem tb_s2_3 (cc : ByteArray) : sm_Cal tb_cl tb_N cc "ProgramSlices$Dependences" tb_W (.invokestatic 44) (tb_ys 74) (tb_ws 74) 2 (dp_rcO 0) := sm_cal_S (tb_GS tb_w353 tb_w354 tb_w13 tb_w355) ⟨by decide, by decide, by decide +kernel⟩ (by decide)
theorem tb_s2_4 (cc : ByteArray) : sm_Cal tb_cl tb_N cc "ProgramSlices$Dependences" tb_W (.invokestatic 40) (tb_ys 67) (tb_ws 67) 2 (dp_rcO 0) := sm_cal_SN (host := "ProgramSlices") (tb_G tb_w153) tb_w152 tb_w89 (tb_inn (i := 583) (by decide +kernel) rfl) ⟨by decide, by decide, by decide +kernel⟩ (by decide)
theorem tb_s2_ok : ∀ e ∈ tb_s2, ∀ cc, sm_Cal tb_cl tb_N cc "ProgramSlices$Dependences" tb_W (.invokestatic e.1) (tb_ys e.2.1) (tb_ws e.2.1) e.2.2.1 (dp_rcO e.2.2.2) := List.forall_mem_cons.mpr ⟨tb_s2_0, List.forall_mem_cons.mpr ⟨tb_s2_1, List.forall_mem_cons.mpr ⟨tb_s2_2, List.forall_mem_cons.mpr ⟨tb_s2_3, List.forall_mem_cons.mpr ⟨tb_s2_4, fun _ h => absurd h List.not_mem_nil⟩⟩⟩⟩⟩
def tb_v2 : List (Nat × Nat × Nat × Nat) := [(61, 36, 1, 4), (70, 44, 2, 2), (74, 46, 2, 3), (102, 48, 4, 3), (57, 49, 3, 3), (106, 33, 2, 2), (109, 34, 2, 2), (78, 51, 2, 3), (119, 52, 5, 3), (132, 41, 2, 2), (138, 53, 3, 4), (141, 54, 4, 4), (81, 55, 2, 3), (145, 56, 3, 4), (148, 57, 6, 3), (84, 58, 2, 3), (90, 59, 2, 3)]
theorem tb_v2_0 (cc : ByteArray) : sm_Cal tb_cl tb_N cc "ProgramSlices$Dependences" tb_W (.invokevirtual 61) (tb_ys 36) (tb_ws 36) 1 (dp_rcO 4) := sm_cal_V (ci := 3) (N0 := 6) (T0 := tb_T3) rfl (tb_GV tb_w286 tb_w287 tb_w288 tb_w283 tb_w289) ⟨by decide, by decide, by decide +kernel⟩ (by decide)
theorem tb_v2_1 (cc : ByteArray) : sm_Cal tb_cl tb_N cc "ProgramSlices$Dependences" tb_W (.invokevirtual 70) (tb_ys 44) (tb_ws 44) 2 (dp_rcO 2) := sm_cal_V (ci := 1) (N0 := 14) (T0 := tb_T1) rfl (tb_GV tb_w294 tb_w100 tb_w101 tb_w10 tb_w102) ⟨by decide, by decide, by decide +kernel⟩ (by decide)
theorem tb_v2_2 (cc : ByteArray) : sm_Cal tb_cl tb_N cc "ProgramSlices$Dependences" tb_W (.invokevirtual 74) (tb_ys 46) (tb_ws 46) 2 (dp_rcO 3) := sm_cal_V (ci := 2) (N0 := 7) (T0 := tb_T2) rfl (tb_GV tb_w295 tb_w296 tb_w297 tb_w13 tb_w298) ⟨by decide, by decide, by decide +kernel⟩ (by decide)
theorem tb_v2_3 (cc : ByteArray) : sm_Cal tb_cl tb_N cc "ProgramSlices$Dependences" tb_W (.invokevirtual 102) (tb_ys 48) (tb_ws 48) 4 (dp_rcO 3) := sm_cal_V (ci := 2) (N0 := 7) (T0 := tb_T2) rfl (tb_GV tb_w301 tb_w302 tb_w303 tb_w13 tb_w304) ⟨by decide, by decide, by decide +kernel⟩ (by decide)
theorem tb_v2_4 (cc : ByteArray) : sm_Cal tb_cl tb_N cc "ProgramSlices$Dependences" tb_W (.invokevirtual 57) (tb_ys 49) (tb_ws 49) 3 (dp_rcO 3) := sm_cal_V (ci := 2) (N0 := 7) (T0 := tb_T2) rfl (tb_GV tb_w305 tb_w306 tb_w307 tb_w13 tb_w308) ⟨by decide, by decide, by decide +kernel⟩ (by decide)
theorem tb_v2_5 (cc : ByteArray) : sm_Cal tb_cl tb_N cc "ProgramSlices$Dependences" tb_W (.invokevirtual 106) (tb_ys 33) (tb_ws 33) 2 (dp_rcO 2) := sm_cal_V (ci := 1) (N0 := 14) (T0 := tb_T1) rfl (tb_GV tb_w309 tb_w108 tb_w109 tb_w10 tb_w110) ⟨by decide, by decide, by decide +kernel⟩ (by decide)
theorem tb_v2_6 (cc : ByteArray) : sm_Cal tb_cl tb_N cc "ProgramSlices$Dependences" tb_W (.invokevirtual 109) (tb_ys 34) (tb_ws 34) 2 (dp_rcO 2) := sm_cal_V (ci := 1) (N0 := 14) (T0 := tb_T1) rfl (tb_GV tb_w310 tb_w112 tb_w113 tb_w10 tb_w114) ⟨by decide, by decide, by decide +kernel⟩ (by decide)
theorem tb_v2_7 (cc : ByteArray) : sm_Cal tb_cl tb_N cc "ProgramSlices$Dependences" tb_W (.invokevirtual 78) (tb_ys 51) (tb_ws 51) 2 (dp_rcO 3) := sm_cal_V (ci := 2) (N0 := 7) (T0 := tb_T2) rfl (tb_GV tb_w313 tb_w314 tb_w315 tb_w13 tb_w316) ⟨by decide, by decide, by decide +kernel⟩ (by decide)
theorem tb_v2_8 (cc : ByteArray) : sm_Cal tb_cl tb_N cc "ProgramSlices$Dependences" tb_W (.invokevirtual 119) (tb_ys 52) (tb_ws 52) 5 (dp_rcO 3) := sm_cal_V (ci := 2) (N0 := 7) (T0 := tb_T2) rfl (tb_GV tb_w317 tb_w318 tb_w319 tb_w13 tb_w320) ⟨by decide, by decide, by decide +kernel⟩ (by decide)
theorem tb_v2_9 (cc : ByteArray) : sm_Cal tb_cl tb_N cc "ProgramSlices$Dependences" tb_W (.invokevirtual 132) (tb_ys 41) (tb_ws 41) 2 (dp_rcO 2) := sm_cal_V (ci := 1) (N0 := 14) (T0 := tb_T1) rfl (tb_GV tb_w321 tb_w322 tb_w323 tb_w10 tb_w324) ⟨by decide, by decide, by decide +kernel⟩ (by decide)
theorem tb_v2_10 (cc : ByteArray) : sm_Cal tb_cl tb_N cc "ProgramSlices$Dependences" tb_W (.invokevirtual 138) (tb_ys 53) (tb_ws 53) 3 (dp_rcO 4) := sm_cal_V (ci := 3) (N0 := 6) (T0 := tb_T3) rfl (tb_GV tb_w325 tb_w326 tb_w327 tb_w283 tb_w328) ⟨by decide, by decide, by decide +kernel⟩ (by decide)
theorem tb_v2_11 (cc : ByteArray) : sm_Cal tb_cl tb_N cc "ProgramSlices$Dependences" tb_W (.invokevirtual 141) (tb_ys 54) (tb_ws 54) 4 (dp_rcO 4) := sm_cal_V (ci := 3) (N0 := 6) (T0 := tb_T3) rfl (tb_GV tb_w329 tb_w330 tb_w331 tb_w283 tb_w332) ⟨by decide, by decide, by decide +kernel⟩ (by decide)
theorem tb_v2_12 (cc : ByteArray) : sm_Cal tb_cl tb_N cc "ProgramSlices$Dependences" tb_W (.invokevirtual 81) (tb_ys 55) (tb_ws 55) 2 (dp_rcO 3) := sm_cal_V (ci := 2) (N0 := 7) (T0 := tb_T2) rfl (tb_GV tb_w333 tb_w334 tb_w335 tb_w13 tb_w336) ⟨by decide, by decide, by decide +kernel⟩ (by decide)
theorem tb_v2_13 (cc : ByteArray) : sm_Cal tb_cl tb_N cc "ProgramSlices$Dependences" tb_W (.invokevirtual 145) (tb_ys 56) (tb_ws 56) 3 (dp_rcO 4) := sm_cal_V (ci := 3) (N0 := 6) (T0 := tb_T3) rfl (tb_GV tb_w337 tb_w338 tb_w339 tb_w283 tb_w340) ⟨by decide, by decide, by decide +kernel⟩ (by decide)
theorem tb_v2_14 (cc : ByteArray) : sm_Cal tb_cl tb_N cc "ProgramSlices$Dependences" tb_W (.invokevirtual 148) (tb_ys 57) (tb_ws 57) 6 (dp_rcO 3) := sm_cal_V (ci := 2) (N0 := 7) (T0 := tb_T2) rfl (tb_GV tb_w341 tb_w342 tb_w343 tb_w13 tb_w344) ⟨by decide, by decide, by decide +kernel⟩ (by decide)
theorem tb_v2_15 (cc : ByteArray) : sm_Cal tb_cl tb_N cc "ProgramSlices$Dependences" tb_W (.invokevirtual 84) (tb_ys 58) (tb_ws 58) 2 (dp_rcO 3) := sm_cal_V (ci := 2) (N0 := 7) (T0 := tb_T2) rfl (tb_GV tb_w345 tb_w346 tb_w347 tb_w13 tb_w348) ⟨by decide, by decide, by decide +kernel⟩ (by decide)
theorem tb_v2_16 (cc : ByteArray) : sm_Cal tb_cl tb_N cc "ProgramSlices$Dependences" tb_W (.invokevirtual 90) (tb_ys 59) (tb_ws 59) 2 (dp_rcO 3) := sm_cal_V (ci := 2) (N0 := 7) (T0 := tb_T2) rfl (tb_GV tb_w349 tb_w350 tb_w351 tb_w13 tb_w352) ⟨by decide, by decide, by decide +kernel⟩ (by decide)
theorem tb_v2_ok : ∀ e ∈ tb_v2, ∀ cc, sm_Cal tb_cl tb_N cc "ProgramSlices$Dependences" tb_W (.invokevirtual e.1) (tb_ys e.2.1) (tb_ws e.2.1) e.2.2.1 (dp_rcO e.2.2.2) := List.forall_mem_cons.mpr ⟨tb_v2_0, List.forall_mem_cons.mpr ⟨tb_v2_1, List.forall_mem_cons.mpr ⟨tb_v2_2, List.forall_mem_cons.mpr ⟨tb_v2_3, List.forall_mem_cons.mpr ⟨tb_v2_4, List.forall_mem_cons.mpr ⟨tb_v2_5, List.forall_mem_cons.mpr ⟨tb_v2_6, List.forall_mem_cons.mpr ⟨tb_v2_7, List.forall_mem_cons.mpr ⟨tb_v2_8, List.forall_mem_cons.mpr ⟨tb_v2_9, List.forall_mem_cons.mpr ⟨tb_v2_10, List.forall_mem_cons.mpr ⟨tb_v2_11, List.forall_mem_cons.mpr ⟨tb_v2_12, List.forall_mem_cons.mpr ⟨tb_v2_13, List.forall_mem_cons.mpr ⟨tb_v2_14, List.forall_mem_cons.mpr ⟨tb_v2_15, List.forall_mem_cons.mpr ⟨tb_v2_16, fun _ h => absurd h List.not_mem_nil⟩⟩⟩⟩⟩⟩⟩⟩⟩⟩⟩⟩⟩⟩⟩⟩⟩
def tb_i2 : List (Nat × Nat × Nat × Nat) := [(33, 3, 2, 4)]
theorem tb_i2_0 (cc : ByteArray) : sm_Cal tb_cl tb_N cc "ProgramSlices$Dependences" tb_W (.invokespecial 33) (tb_ys 3) (tb_ws 3) 2 (dp_rcO 4) := sm_cal_I (ret' := none) (ci := 3) (tb_G tb_w282) tb_w283 tb_w284 tb_w285 rfl ⟨by decide, by decide, by decide +kernel⟩ (by decide)
theorem tb_i2_ok : ∀ e ∈ tb_i2, ∀ cc, sm_Cal tb_cl tb_N cc "ProgramSlices$Dependences" tb_W (.invokespecial e.1) (tb_ys e.2.1) (tb_ws e.2.1) e.2.2.1 (dp_rcO e.2.2.2) := List.forall_mem_cons.mpr ⟨tb_i2_0, fun _ h => absurd h List.not_mem_nil⟩
def tb_e2 : List (Nat × Nat × List (Option (Option Nat))) := [(31, 3, [some none, some none, some none, some none, some none, some none])]
theorem tb_e2_0 : dp_nok tb_cl "ProgramSlices$Dependences" tb_W 31 (3, [some none, some none, some none, some none, some none, some none]) := ⟨"ProgramSlices$Ways", tb_T3, tb_t3, rfl, tb_u3, tb_y3, tb_w356, tb_w357, tb_w283, by
  intro j hj ad
  have hj : j < 6 := hj
  rcases (show j = 0 ∨ j = 1 ∨ j = 2 ∨ j = 3 ∨ j = 4 ∨ j = 5 by omega) with rfl | rfl | rfl | rfl | rfl | rfl <;> rfl, fun _ _ => rfl⟩
theorem tb_e2_ok : ∀ e ∈ tb_e2, dp_nok tb_cl "ProgramSlices$Dependences" tb_W e.1 e.2 := List.forall_mem_cons.mpr ⟨tb_e2_0, fun _ h => absurd h List.not_mem_nil⟩
def tb_K2 : dp_K := (dp_lk tb_f2, dp_lk tb_c2, dp_lk tb_l2, fun i => match i % 3 with
  | 0 => dp_lk tb_s2 (i / 3)
  | 1 => dp_lk tb_v2 (i / 3)
  | _ => dp_lk tb_i2 (i / 3), dp_lk tb_e2, 3)
theorem tb_K2_ok : dp_Kok tb_cl tb_N "ProgramSlices$Dependences" tb_W tb_ys tb_ws tb_K2 := by
  refine ⟨fun i F h => tb_f2_ok _ (dp_lk_mem h), fun i v h => tb_c2_ok _ (dp_lk_mem h), fun i v h => tb_l2_ok _ (dp_lk_mem h), fun i C h cc => ?_, fun i C h cc => ?_, fun i C h cc => ?_, fun i C h => tb_e2_ok _ (dp_lk_mem h), ⟨tb_w358, tb_w206, tb_w207⟩, tb_w208, tb_w209, tb_w210⟩
  · have h : dp_lk tb_s2 i = some C := by
      have e1 : 3 * i % 3 = 0 := by omega
      have e2 : 3 * i / 3 = i := by omega
      simpa [tb_K2, e1, e2] using h
    exact tb_s2_ok _ (dp_lk_mem h) cc
  · have h : dp_lk tb_v2 i = some C := by
      have e1 : (3 * i + 1) % 3 = 1 := by omega
      have e2 : (3 * i + 1) / 3 = i := by omega
      simpa [tb_K2, e1, e2] using h
    exact tb_v2_ok _ (dp_lk_mem h) cc
  · have h : dp_lk tb_i2 i = some C := by
      have e1 : (3 * i + 2) % 3 = 2 := by omega
      have e2 : (3 * i + 2) / 3 = i := by omega
      simpa [tb_K2, e1, e2] using h
    exact tb_i2_ok _ (dp_lk_mem h) cc
def tb_f3 : List (Nat × Nat × Nat × Nat) := [(69, 1, 0, 3), (55, 1, 1, 3), (41, 1, 4, 0), (76, 1, 7, 3), (66, 1, 9, 3), (63, 1, 11, 0), (27, 3, 0, 2), (9, 3, 1, 2), (15, 3, 2, 2), (18, 3, 3, 2), (21, 3, 4, 2), (24, 3, 5, 2)]
theorem tb_f3_0 : dp_fok tb_cl tb_N "ProgramSlices$Ways" tb_W 69 (1, 0, 3) := ⟨"ProgramSlices$Code", tb_T1, 14, tb_t1, rfl, by decide, tb_u1, tb_y1, tb_n1, Or.inl tb_w359, fun h => absurd h (by decide), fun h => absurd h (by decide), fun h => absurd h (by decide)⟩
theorem tb_f3_1 : dp_fok tb_cl tb_N "ProgramSlices$Ways" tb_W 55 (1, 1, 3) := ⟨"ProgramSlices$Code", tb_T1, 14, tb_t1, rfl, by decide, tb_u1, tb_y1, tb_n1, Or.inl tb_w360, fun h => absurd h (by decide), fun h => absurd h (by decide), fun h => absurd h (by decide)⟩
theorem tb_f3_2 : dp_fok tb_cl tb_N "ProgramSlices$Ways" tb_W 41 (1, 4, 0) := ⟨"ProgramSlices$Code", tb_T1, 14, tb_t1, rfl, by decide, tb_u1, tb_y1, tb_n1, Or.inl tb_w361, fun _ => ⟨rfl, rfl⟩, fun h => absurd h (by decide), fun h => absurd h (by decide)⟩
theorem tb_f3_3 : dp_fok tb_cl tb_N "ProgramSlices$Ways" tb_W 76 (1, 7, 3) := ⟨"ProgramSlices$Code", tb_T1, 14, tb_t1, rfl, by decide, tb_u1, tb_y1, tb_n1, Or.inl tb_w362, fun h => absurd h (by decide), fun h => absurd h (by decide), fun h => absurd h (by decide)⟩
theorem tb_f3_4 : dp_fok tb_cl tb_N "ProgramSlices$Ways" tb_W 66 (1, 9, 3) := ⟨"ProgramSlices$Code", tb_T1, 14, tb_t1, rfl, by decide, tb_u1, tb_y1, tb_n1, Or.inl tb_w363, fun h => absurd h (by decide), fun h => absurd h (by decide), fun h => absurd h (by decide)⟩
theorem tb_f3_5 : dp_fok tb_cl tb_N "ProgramSlices$Ways" tb_W 63 (1, 11, 0) := ⟨"ProgramSlices$Code", tb_T1, 14, tb_t1, rfl, by decide, tb_u1, tb_y1, tb_n1, Or.inl tb_w364, fun _ => ⟨rfl, rfl⟩, fun h => absurd h (by decide), fun h => absurd h (by decide)⟩
theorem tb_f3_6 : dp_fok tb_cl tb_N "ProgramSlices$Ways" tb_W 27 (3, 0, 2) := ⟨"ProgramSlices$Ways", tb_T3, 6, tb_t3, rfl, by decide, tb_u3, tb_y3, tb_n3, Or.inl tb_w365, fun h => absurd h (by decide), fun h => absurd h (by decide), fun _ => ⟨rfl, rfl, tb_w365, fun _ => ⟨rfl, rfl⟩⟩⟩
theorem tb_f3_7 : dp_fok tb_cl tb_N "ProgramSlices$Ways" tb_W 9 (3, 1, 2) := ⟨"ProgramSlices$Ways", tb_T3, 6, tb_t3, rfl, by decide, tb_u3, tb_y3, tb_n3, Or.inl tb_w366, fun h => absurd h (by decide), fun h => absurd h (by decide), fun _ => ⟨rfl, rfl, tb_w366, fun _ => ⟨rfl, rfl⟩⟩⟩
theorem tb_f3_8 : dp_fok tb_cl tb_N "ProgramSlices$Ways" tb_W 15 (3, 2, 2) := ⟨"ProgramSlices$Ways", tb_T3, 6, tb_t3, rfl, by decide, tb_u3, tb_y3, tb_n3, Or.inl tb_w367, fun h => absurd h (by decide), fun h => absurd h (by decide), fun _ => ⟨rfl, rfl, tb_w367, fun _ => ⟨rfl, rfl⟩⟩⟩
theorem tb_f3_9 : dp_fok tb_cl tb_N "ProgramSlices$Ways" tb_W 18 (3, 3, 2) := ⟨"ProgramSlices$Ways", tb_T3, 6, tb_t3, rfl, by decide, tb_u3, tb_y3, tb_n3, Or.inl tb_w368, fun h => absurd h (by decide), fun h => absurd h (by decide), fun _ => ⟨rfl, rfl, tb_w368, fun _ => ⟨rfl, rfl⟩⟩⟩
theorem tb_f3_10 : dp_fok tb_cl tb_N "ProgramSlices$Ways" tb_W 21 (3, 4, 2) := ⟨"ProgramSlices$Ways", tb_T3, 6, tb_t3, rfl, by decide, tb_u3, tb_y3, tb_n3, Or.inl tb_w369, fun h => absurd h (by decide), fun h => absurd h (by decide), fun _ => ⟨rfl, rfl, tb_w369, fun _ => ⟨rfl, rfl⟩⟩⟩
theorem tb_f3_11 : dp_fok tb_cl tb_N "ProgramSlices$Ways" tb_W 24 (3, 5, 2) := ⟨"ProgramSlices$Ways", tb_T3, 6, tb_t3, rfl, by decide, tb_u3, tb_y3, tb_n3, Or.inl tb_w370, fun h => absurd h (by decide), fun h => absurd h (by decide), fun _ => ⟨rfl, rfl, tb_w370, fun _ => ⟨rfl, rfl⟩⟩⟩
theorem tb_f3_ok : ∀ e ∈ tb_f3, dp_fok tb_cl tb_N "ProgramSlices$Ways" tb_W e.1 e.2 := List.forall_mem_cons.mpr ⟨tb_f3_0, List.forall_mem_cons.mpr ⟨tb_f3_1, List.forall_mem_cons.mpr ⟨tb_f3_2, List.forall_mem_cons.mpr ⟨tb_f3_3, List.forall_mem_cons.mpr ⟨tb_f3_4, List.forall_mem_cons.mpr ⟨tb_f3_5, List.forall_mem_cons.mpr ⟨tb_f3_6, List.forall_mem_cons.mpr ⟨tb_f3_7, List.forall_mem_cons.mpr ⟨tb_f3_8, List.forall_mem_cons.mpr ⟨tb_f3_9, List.forall_mem_cons.mpr ⟨tb_f3_10, List.forall_mem_cons.mpr ⟨tb_f3_11, fun _ h => absurd h List.not_mem_nil⟩⟩⟩⟩⟩⟩⟩⟩⟩⟩⟩⟩
def tb_c3 : List (Nat × Int32) := []
theorem tb_c3_ok : ∀ e ∈ tb_c3, Jvm.Cond.constant "ProgramSlices$Ways" e.1 e.2 ∈ tb_W := fun _ h => absurd h List.not_mem_nil
def tb_l3 : List (Nat × Int64) := [(82, -1)]
theorem tb_l3_ok : ∀ e ∈ tb_l3, Jvm.Cond.constantLong "ProgramSlices$Ways" e.1 e.2 ∈ tb_W := List.forall_mem_cons.mpr ⟨tb_w371, fun _ h => absurd h List.not_mem_nil⟩
def tb_s3 : List (Nat × Nat × Nat × Nat) := [(35, 37, 2, 0), (31, 43, 2, 0)]
theorem tb_s3_0 (cc : ByteArray) : sm_Cal tb_cl tb_N cc "ProgramSlices$Ways" tb_W (.invokestatic 35) (tb_ys 37) (tb_ws 37) 2 (dp_rcO 0) := sm_cal_S (tb_GS tb_w372 tb_w373 tb_w292 tb_w374) ⟨by decide, by decide, by decide +kernel⟩ (by decide)
theorem tb_s3_1 (cc : ByteArray) : sm_Cal tb_cl tb_N cc "ProgramSlices$Ways" tb_W (.invokestatic 31) (tb_ys 43) (tb_ws 43) 2 (dp_rcO 0) := sm_cal_SN (host := "ProgramSlices") (tb_G tb_w392) tb_w393 tb_w89 (tb_inn (i := 454) (by decide +kernel) rfl) ⟨by decide, by decide, by decide +kernel⟩ (by decide)
theorem tb_s3_ok : ∀ e ∈ tb_s3, ∀ cc, sm_Cal tb_cl tb_N cc "ProgramSlices$Ways" tb_W (.invokestatic e.1) (tb_ys e.2.1) (tb_ws e.2.1) e.2.2.1 (dp_rcO e.2.2.2) := List.forall_mem_cons.mpr ⟨tb_s3_0, List.forall_mem_cons.mpr ⟨tb_s3_1, fun _ h => absurd h List.not_mem_nil⟩⟩
def tb_v3 : List (Nat × Nat × Nat × Nat) := [(47, 38, 2, 4), (72, 39, 2, 2), (79, 40, 2, 2), (51, 41, 2, 2), (59, 42, 3, 4)]
theorem tb_v3_0 (cc : ByteArray) : sm_Cal tb_cl tb_N cc "ProgramSlices$Ways" tb_W (.invokevirtual 47) (tb_ys 38) (tb_ws 38) 2 (dp_rcO 4) := sm_cal_V (ci := 3) (N0 := 6) (T0 := tb_T3) rfl (tb_GV tb_w375 tb_w376 tb_w377 tb_w283 tb_w378) ⟨by decide, by decide, by decide +kernel⟩ (by decide)
theorem tb_v3_1 (cc : ByteArray) : sm_Cal tb_cl tb_N cc "ProgramSlices$Ways" tb_W (.invokevirtual 72) (tb_ys 39) (tb_ws 39) 2 (dp_rcO 2) := sm_cal_V (ci := 1) (N0 := 14) (T0 := tb_T1) rfl (tb_GV tb_w379 tb_w380 tb_w381 tb_w10 tb_w382) ⟨by decide, by decide, by decide +kernel⟩ (by decide)
theorem tb_v3_2 (cc : ByteArray) : sm_Cal tb_cl tb_N cc "ProgramSlices$Ways" tb_W (.invokevirtual 79) (tb_ys 40) (tb_ws 40) 2 (dp_rcO 2) := sm_cal_V (ci := 1) (N0 := 14) (T0 := tb_T1) rfl (tb_GV tb_w383 tb_w384 tb_w385 tb_w10 tb_w386) ⟨by decide, by decide, by decide +kernel⟩ (by decide)
theorem tb_v3_3 (cc : ByteArray) : sm_Cal tb_cl tb_N cc "ProgramSlices$Ways" tb_W (.invokevirtual 51) (tb_ys 41) (tb_ws 41) 2 (dp_rcO 2) := sm_cal_V (ci := 1) (N0 := 14) (T0 := tb_T1) rfl (tb_GV tb_w387 tb_w322 tb_w323 tb_w10 tb_w324) ⟨by decide, by decide, by decide +kernel⟩ (by decide)
theorem tb_v3_4 (cc : ByteArray) : sm_Cal tb_cl tb_N cc "ProgramSlices$Ways" tb_W (.invokevirtual 59) (tb_ys 42) (tb_ws 42) 3 (dp_rcO 4) := sm_cal_V (ci := 3) (N0 := 6) (T0 := tb_T3) rfl (tb_GV tb_w388 tb_w389 tb_w390 tb_w283 tb_w391) ⟨by decide, by decide, by decide +kernel⟩ (by decide)
theorem tb_v3_ok : ∀ e ∈ tb_v3, ∀ cc, sm_Cal tb_cl tb_N cc "ProgramSlices$Ways" tb_W (.invokevirtual e.1) (tb_ys e.2.1) (tb_ws e.2.1) e.2.2.1 (dp_rcO e.2.2.2) := List.forall_mem_cons.mpr ⟨tb_v3_0, List.forall_mem_cons.mpr ⟨tb_v3_1, List.forall_mem_cons.mpr ⟨tb_v3_2, List.forall_mem_cons.mpr ⟨tb_v3_3, List.forall_mem_cons.mpr ⟨tb_v3_4, fun _ h => absurd h List.not_mem_nil⟩⟩⟩⟩⟩
def tb_i3 : List (Nat × Nat × Nat × Nat) := []
theorem tb_i3_ok : ∀ e ∈ tb_i3, ∀ cc, sm_Cal tb_cl tb_N cc "ProgramSlices$Ways" tb_W (.invokespecial e.1) (tb_ys e.2.1) (tb_ws e.2.1) e.2.2.1 (dp_rcO e.2.2.2) := fun _ h => absurd h List.not_mem_nil
def tb_e3 : List (Nat × Nat × List (Option (Option Nat))) := []
theorem tb_e3_ok : ∀ e ∈ tb_e3, dp_nok tb_cl "ProgramSlices$Ways" tb_W e.1 e.2 := fun _ h => absurd h List.not_mem_nil
def tb_K3 : dp_K := (dp_lk tb_f3, dp_lk tb_c3, dp_lk tb_l3, fun i => match i % 3 with
  | 0 => dp_lk tb_s3 (i / 3)
  | 1 => dp_lk tb_v3 (i / 3)
  | _ => dp_lk tb_i3 (i / 3), dp_lk tb_e3, 3)
theorem tb_K3_ok : dp_Kok tb_cl tb_N "ProgramSlices$Ways" tb_W tb_ys tb_ws tb_K3 := by
  refine ⟨fun i F h => tb_f3_ok _ (dp_lk_mem h), fun i v h => tb_c3_ok _ (dp_lk_mem h), fun i v h => tb_l3_ok _ (dp_lk_mem h), fun i C h cc => ?_, fun i C h cc => ?_, fun i C h cc => ?_, fun i C h => tb_e3_ok _ (dp_lk_mem h), ⟨tb_w394, tb_w206, tb_w207⟩, tb_w208, tb_w209, tb_w210⟩
  · have h : dp_lk tb_s3 i = some C := by
      have e1 : 3 * i % 3 = 0 := by omega
      have e2 : 3 * i / 3 = i := by omega
      simpa [tb_K3, e1, e2] using h
    exact tb_s3_ok _ (dp_lk_mem h) cc
  · have h : dp_lk tb_v3 i = some C := by
      have e1 : (3 * i + 1) % 3 = 1 := by omega
      have e2 : (3 * i + 1) / 3 = i := by omega
      simpa [tb_K3, e1, e2] using h
    exact tb_v3_ok _ (dp_lk_mem h) cc
  · have h : dp_lk tb_i3 i = some C := by
      have e1 : (3 * i + 2) % 3 = 2 := by omega
      have e2 : (3 * i + 2) / 3 = i := by omega
      simpa [tb_K3, e1, e2] using h
    exact tb_i3_ok _ (dp_lk_mem h) cc
def tb_f4 : List (Nat × Nat × Nat × Nat) := [(34, 1, 11, 0), (18, 4, 0, 2), (22, 4, 1, 2), (9, 4, 2, 2), (15, 4, 3, 2), (67, 4, 4, 0)]
theorem tb_f4_0 : dp_fok tb_cl tb_N "ProgramSlices$Walk" tb_W 34 (1, 11, 0) := ⟨"ProgramSlices$Code", tb_T1, 14, tb_t1, rfl, by decide, tb_u1, tb_y1, tb_n1, Or.inl tb_w395, fun _ => ⟨rfl, rfl⟩, fun h => absurd h (by decide), fun h => absurd h (by decide)⟩
theorem tb_f4_1 : dp_fok tb_cl tb_N "ProgramSlices$Walk" tb_W 18 (4, 0, 2) := ⟨"ProgramSlices$Walk", tb_T4, 5, tb_t4, rfl, by decide, tb_u4, tb_y4, tb_n4, Or.inl tb_w396, fun h => absurd h (by decide), fun h => absurd h (by decide), fun _ => ⟨rfl, rfl, tb_w396, fun _ => ⟨rfl, rfl⟩⟩⟩
theorem tb_f4_2 : dp_fok tb_cl tb_N "ProgramSlices$Walk" tb_W 22 (4, 1, 2) := ⟨"ProgramSlices$Walk", tb_T4, 5, tb_t4, rfl, by decide, tb_u4, tb_y4, tb_n4, Or.inl tb_w397, fun h => absurd h (by decide), fun h => absurd h (by decide), fun _ => ⟨rfl, rfl, tb_w397, fun _ => ⟨rfl, rfl⟩⟩⟩
theorem tb_f4_3 : dp_fok tb_cl tb_N "ProgramSlices$Walk" tb_W 9 (4, 2, 2) := ⟨"ProgramSlices$Walk", tb_T4, 5, tb_t4, rfl, by decide, tb_u4, tb_y4, tb_n4, Or.inl tb_w398, fun h => absurd h (by decide), fun h => absurd h (by decide), fun _ => ⟨rfl, rfl, tb_w398, fun _ => ⟨rfl, rfl⟩⟩⟩
theorem tb_f4_4 : dp_fok tb_cl tb_N "ProgramSlices$Walk" tb_W 15 (4, 3, 2) := ⟨"ProgramSlices$Walk", tb_T4, 5, tb_t4, rfl, by decide, tb_u4, tb_y4, tb_n4, Or.inl tb_w399, fun h => absurd h (by decide), fun h => absurd h (by decide), fun _ => ⟨rfl, rfl, tb_w399, fun _ => ⟨rfl, rfl⟩⟩⟩
theorem tb_f4_5 : dp_fok tb_cl tb_N "ProgramSlices$Walk" tb_W 67 (4, 4, 0) := ⟨"ProgramSlices$Walk", tb_T4, 5, tb_t4, rfl, by decide, tb_u4, tb_y4, tb_n4, Or.inl tb_w400, fun _ => ⟨rfl, rfl⟩, fun h => absurd h (by decide), fun h => absurd h (by decide)⟩
theorem tb_f4_ok : ∀ e ∈ tb_f4, dp_fok tb_cl tb_N "ProgramSlices$Walk" tb_W e.1 e.2 := List.forall_mem_cons.mpr ⟨tb_f4_0, List.forall_mem_cons.mpr ⟨tb_f4_1, List.forall_mem_cons.mpr ⟨tb_f4_2, List.forall_mem_cons.mpr ⟨tb_f4_3, List.forall_mem_cons.mpr ⟨tb_f4_4, List.forall_mem_cons.mpr ⟨tb_f4_5, fun _ h => absurd h List.not_mem_nil⟩⟩⟩⟩⟩⟩
def tb_c4 : List (Nat × Int32) := []
theorem tb_c4_ok : ∀ e ∈ tb_c4, Jvm.Cond.constant "ProgramSlices$Walk" e.1 e.2 ∈ tb_W := fun _ h => absurd h List.not_mem_nil
def tb_l4 : List (Nat × Int64) := []
theorem tb_l4_ok : ∀ e ∈ tb_l4, Jvm.Cond.constantLong "ProgramSlices$Walk" e.1 e.2 ∈ tb_W := fun _ h => absurd h List.not_mem_nil
def tb_s4 : List (Nat × Nat × Nat × Nat) := [(44, 47, 2, 0), (61, 24, 2, 0), (48, 67, 2, 0), (81, 68, 1, 0), (92, 70, 1, 0)]
theorem tb_s4_0 (cc : ByteArray) : sm_Cal tb_cl tb_N cc "ProgramSlices$Walk" tb_W (.invokestatic 44) (tb_ys 47) (tb_ws 47) 2 (dp_rcO 0) := sm_cal_SN (host := "ProgramSlices") (tb_G tb_w299) tb_w300 tb_w89 (tb_inn (i := 531) (by decide +kernel) rfl) ⟨by decide, by decide, by decide +kernel⟩ (by decide)
theorem tb_s4_1 (cc : ByteArray) : sm_Cal tb_cl tb_N cc "ProgramSlices$Walk" tb_W (.invokestatic 61) (tb_ys 24) (tb_ws 24) 2 (dp_rcO 0) := sm_cal_S (tb_GS tb_w409 tb_w291 tb_w292 tb_w293) ⟨by decide, by decide, by decide +kernel⟩ (by decide)
theorem tb_s4_2 (cc : ByteArray) : sm_Cal tb_cl tb_N cc "ProgramSlices$Walk" tb_W (.invokestatic 48) (tb_ys 67) (tb_ws 67) 2 (dp_rcO 0) := sm_cal_SN (host := "ProgramSlices") (tb_G tb_w153) tb_w152 tb_w89 (tb_inn (i := 553) (by decide +kernel) rfl) ⟨by decide, by decide, by decide +kernel⟩ (by decide)
theorem tb_s4_3 (cc : ByteArray) : sm_Cal tb_cl tb_N cc "ProgramSlices$Walk" tb_W (.invokestatic 81) (tb_ys 68) (tb_ws 68) 1 (dp_rcO 0) := sm_cal_S (tb_GS tb_w426 tb_w427 tb_w17 tb_w428) ⟨by decide, by decide, by decide +kernel⟩ (by decide)
theorem tb_s4_4 (cc : ByteArray) : sm_Cal tb_cl tb_N cc "ProgramSlices$Walk" tb_W (.invokestatic 92) (tb_ys 70) (tb_ws 70) 1 (dp_rcO 0) := sm_cal_S (tb_GS tb_w433 tb_w434 tb_w17 tb_w435) ⟨by decide, by decide, by decide +kernel⟩ (by decide)
theorem tb_s4_ok : ∀ e ∈ tb_s4, ∀ cc, sm_Cal tb_cl tb_N cc "ProgramSlices$Walk" tb_W (.invokestatic e.1) (tb_ys e.2.1) (tb_ws e.2.1) e.2.2.1 (dp_rcO e.2.2.2) := List.forall_mem_cons.mpr ⟨tb_s4_0, List.forall_mem_cons.mpr ⟨tb_s4_1, List.forall_mem_cons.mpr ⟨tb_s4_2, List.forall_mem_cons.mpr ⟨tb_s4_3, List.forall_mem_cons.mpr ⟨tb_s4_4, fun _ h => absurd h List.not_mem_nil⟩⟩⟩⟩⟩
def tb_v4 : List (Nat × Nat × Nat × Nat) := [(40, 61, 3, 5), (26, 62, 2, 5), (70, 63, 2, 5), (30, 64, 3, 5), (73, 65, 4, 3), (77, 66, 3, 5), (85, 69, 3, 5), (96, 71, 2, 3), (89, 72, 3, 5), (99, 33, 2, 2), (102, 34, 2, 2), (51, 73, 4, 3), (57, 75, 4, 3)]
theorem tb_v4_0 (cc : ByteArray) : sm_Cal tb_cl tb_N cc "ProgramSlices$Walk" tb_W (.invokevirtual 40) (tb_ys 61) (tb_ws 61) 3 (dp_rcO 5) := sm_cal_V (ci := 4) (N0 := 5) (T0 := tb_T4) rfl (tb_GV tb_w401 tb_w402 tb_w403 tb_w17 tb_w404) ⟨by decide, by decide, by decide +kernel⟩ (by decide)
theorem tb_v4_1 (cc : ByteArray) : sm_Cal tb_cl tb_N cc "ProgramSlices$Walk" tb_W (.invokevirtual 26) (tb_ys 62) (tb_ws 62) 2 (dp_rcO 5) := sm_cal_V (ci := 4) (N0 := 5) (T0 := tb_T4) rfl (tb_GV tb_w405 tb_w406 tb_w407 tb_w17 tb_w408) ⟨by decide, by decide, by decide +kernel⟩ (by decide)
theorem tb_v4_2 (cc : ByteArray) : sm_Cal tb_cl tb_N cc "ProgramSlices$Walk" tb_W (.invokevirtual 70) (tb_ys 63) (tb_ws 63) 2 (dp_rcO 5) := sm_cal_V (ci := 4) (N0 := 5) (T0 := tb_T4) rfl (tb_GV tb_w410 tb_w411 tb_w412 tb_w17 tb_w413) ⟨by decide, by decide, by decide +kernel⟩ (by decide)
theorem tb_v4_3 (cc : ByteArray) : sm_Cal tb_cl tb_N cc "ProgramSlices$Walk" tb_W (.invokevirtual 30) (tb_ys 64) (tb_ws 64) 3 (dp_rcO 5) := sm_cal_V (ci := 4) (N0 := 5) (T0 := tb_T4) rfl (tb_GV tb_w414 tb_w415 tb_w416 tb_w17 tb_w417) ⟨by decide, by decide, by decide +kernel⟩ (by decide)
theorem tb_v4_4 (cc : ByteArray) : sm_Cal tb_cl tb_N cc "ProgramSlices$Walk" tb_W (.invokevirtual 73) (tb_ys 65) (tb_ws 65) 4 (dp_rcO 3) := sm_cal_V (ci := 2) (N0 := 7) (T0 := tb_T2) rfl (tb_GV tb_w418 tb_w419 tb_w420 tb_w13 tb_w421) ⟨by decide, by decide, by decide +kernel⟩ (by decide)
theorem tb_v4_5 (cc : ByteArray) : sm_Cal tb_cl tb_N cc "ProgramSlices$Walk" tb_W (.invokevirtual 77) (tb_ys 66) (tb_ws 66) 3 (dp_rcO 5) := sm_cal_V (ci := 4) (N0 := 5) (T0 := tb_T4) rfl (tb_GV tb_w422 tb_w423 tb_w424 tb_w17 tb_w425) ⟨by decide, by decide, by decide +kernel⟩ (by decide)
theorem tb_v4_6 (cc : ByteArray) : sm_Cal tb_cl tb_N cc "ProgramSlices$Walk" tb_W (.invokevirtual 85) (tb_ys 69) (tb_ws 69) 3 (dp_rcO 5) := sm_cal_V (ci := 4) (N0 := 5) (T0 := tb_T4) rfl (tb_GV tb_w429 tb_w430 tb_w431 tb_w17 tb_w432) ⟨by decide, by decide, by decide +kernel⟩ (by decide)
theorem tb_v4_7 (cc : ByteArray) : sm_Cal tb_cl tb_N cc "ProgramSlices$Walk" tb_W (.invokevirtual 96) (tb_ys 71) (tb_ws 71) 2 (dp_rcO 3) := sm_cal_V (ci := 2) (N0 := 7) (T0 := tb_T2) rfl (tb_GV tb_w436 tb_w437 tb_w438 tb_w13 tb_w439) ⟨by decide, by decide, by decide +kernel⟩ (by decide)
theorem tb_v4_8 (cc : ByteArray) : sm_Cal tb_cl tb_N cc "ProgramSlices$Walk" tb_W (.invokevirtual 89) (tb_ys 72) (tb_ws 72) 3 (dp_rcO 5) := sm_cal_V (ci := 4) (N0 := 5) (T0 := tb_T4) rfl (tb_GV tb_w440 tb_w441 tb_w442 tb_w17 tb_w443) ⟨by decide, by decide, by decide +kernel⟩ (by decide)
theorem tb_v4_9 (cc : ByteArray) : sm_Cal tb_cl tb_N cc "ProgramSlices$Walk" tb_W (.invokevirtual 99) (tb_ys 33) (tb_ws 33) 2 (dp_rcO 2) := sm_cal_V (ci := 1) (N0 := 14) (T0 := tb_T1) rfl (tb_GV tb_w444 tb_w108 tb_w109 tb_w10 tb_w110) ⟨by decide, by decide, by decide +kernel⟩ (by decide)
theorem tb_v4_10 (cc : ByteArray) : sm_Cal tb_cl tb_N cc "ProgramSlices$Walk" tb_W (.invokevirtual 102) (tb_ys 34) (tb_ws 34) 2 (dp_rcO 2) := sm_cal_V (ci := 1) (N0 := 14) (T0 := tb_T1) rfl (tb_GV tb_w445 tb_w112 tb_w113 tb_w10 tb_w114) ⟨by decide, by decide, by decide +kernel⟩ (by decide)
theorem tb_v4_11 (cc : ByteArray) : sm_Cal tb_cl tb_N cc "ProgramSlices$Walk" tb_W (.invokevirtual 51) (tb_ys 73) (tb_ws 73) 4 (dp_rcO 3) := sm_cal_V (ci := 2) (N0 := 7) (T0 := tb_T2) rfl (tb_GV tb_w446 tb_w116 tb_w117 tb_w13 tb_w118) ⟨by decide, by decide, by decide +kernel⟩ (by decide)
theorem tb_v4_12 (cc : ByteArray) : sm_Cal tb_cl tb_N cc "ProgramSlices$Walk" tb_W (.invokevirtual 57) (tb_ys 75) (tb_ws 75) 4 (dp_rcO 3) := sm_cal_V (ci := 2) (N0 := 7) (T0 := tb_T2) rfl (tb_GV tb_w447 tb_w448 tb_w449 tb_w13 tb_w450) ⟨by decide, by decide, by decide +kernel⟩ (by decide)
theorem tb_v4_ok : ∀ e ∈ tb_v4, ∀ cc, sm_Cal tb_cl tb_N cc "ProgramSlices$Walk" tb_W (.invokevirtual e.1) (tb_ys e.2.1) (tb_ws e.2.1) e.2.2.1 (dp_rcO e.2.2.2) := List.forall_mem_cons.mpr ⟨tb_v4_0, List.forall_mem_cons.mpr ⟨tb_v4_1, List.forall_mem_cons.mpr ⟨tb_v4_2, List.forall_mem_cons.mpr ⟨tb_v4_3, List.forall_mem_cons.mpr ⟨tb_v4_4, List.forall_mem_cons.mpr ⟨tb_v4_5, List.forall_mem_cons.mpr ⟨tb_v4_6, List.forall_mem_cons.mpr ⟨tb_v4_7, List.forall_mem_cons.mpr ⟨tb_v4_8, List.forall_mem_cons.mpr ⟨tb_v4_9, List.forall_mem_cons.mpr ⟨tb_v4_10, List.forall_mem_cons.mpr ⟨tb_v4_11, List.forall_mem_cons.mpr ⟨tb_v4_12, fun _ h => absurd h List.not_mem_nil⟩⟩⟩⟩⟩⟩⟩⟩⟩⟩⟩⟩⟩
def tb_i4 : List (Nat × Nat × Nat × Nat) := []
theorem tb_i4_ok : ∀ e ∈ tb_i4, ∀ cc, sm_Cal tb_cl tb_N cc "ProgramSlices$Walk" tb_W (.invokespecial e.1) (tb_ys e.2.1) (tb_ws e.2.1) e.2.2.1 (dp_rcO e.2.2.2) := fun _ h => absurd h List.not_mem_nil
def tb_e4 : List (Nat × Nat × List (Option (Option Nat))) := []
theorem tb_e4_ok : ∀ e ∈ tb_e4, dp_nok tb_cl "ProgramSlices$Walk" tb_W e.1 e.2 := fun _ h => absurd h List.not_mem_nil
def tb_K4 : dp_K := (dp_lk tb_f4, dp_lk tb_c4, dp_lk tb_l4, fun i => match i % 3 with
  | 0 => dp_lk tb_s4 (i / 3)
  | 1 => dp_lk tb_v4 (i / 3)
  | _ => dp_lk tb_i4 (i / 3), dp_lk tb_e4, 3)
theorem tb_K4_ok : dp_Kok tb_cl tb_N "ProgramSlices$Walk" tb_W tb_ys tb_ws tb_K4 := by
  refine ⟨fun i F h => tb_f4_ok _ (dp_lk_mem h), fun i v h => tb_c4_ok _ (dp_lk_mem h), fun i v h => tb_l4_ok _ (dp_lk_mem h), fun i C h cc => ?_, fun i C h cc => ?_, fun i C h cc => ?_, fun i C h => tb_e4_ok _ (dp_lk_mem h), ⟨tb_w451, tb_w206, tb_w207⟩, tb_w208, tb_w209, tb_w210⟩
  · have h : dp_lk tb_s4 i = some C := by
      have e1 : 3 * i % 3 = 0 := by omega
      have e2 : 3 * i / 3 = i := by omega
      simpa [tb_K4, e1, e2] using h
    exact tb_s4_ok _ (dp_lk_mem h) cc
  · have h : dp_lk tb_v4 i = some C := by
      have e1 : (3 * i + 1) % 3 = 1 := by omega
      have e2 : (3 * i + 1) / 3 = i := by omega
      simpa [tb_K4, e1, e2] using h
    exact tb_v4_ok _ (dp_lk_mem h) cc
  · have h : dp_lk tb_i4 i = some C := by
      have e1 : (3 * i + 2) % 3 = 2 := by omega
      have e2 : (3 * i + 2) / 3 = i := by omega
      simpa [tb_K4, e1, e2] using h
    exact tb_i4_ok _ (dp_lk_mem h) cc
def tb_f5 : List (Nat × Nat × Nat × Nat) := [(111, 1, 0, 3), (136, 1, 1, 3), (123, 1, 2, 3), (129, 1, 3, 3), (104, 1, 7, 3), (158, 1, 9, 3), (81, 1, 10, 3), (12, 5, 0, 2), (34, 5, 1, 2), (18, 5, 2, 2), (22, 5, 3, 2), (25, 5, 4, 2), (28, 5, 5, 2), (31, 5, 6, 2), (67, 5, 7, 0), (78, 5, 8, 0), (45, 5, 9, 0), (58, 5, 10, 0), (55, 5, 11, 0), (61, 5, 12, 0), (64, 5, 13, 0), (38, 5, 14, 1)]
theorem tb_f5_0 : dp_fok tb_cl tb_N "ProgramSlices$Machine" tb_W 111 (1, 0, 3) := ⟨"ProgramSlices$Code", tb_T1, 14, tb_t1, rfl, by decide, tb_u1, tb_y1, tb_n1, Or.inl tb_w452, fun h => absurd h (by decide), fun h => absurd h (by decide), fun h => absurd h (by decide)⟩
theorem tb_f5_1 : dp_fok tb_cl tb_N "ProgramSlices$Machine" tb_W 136 (1, 1, 3) := ⟨"ProgramSlices$Code", tb_T1, 14, tb_t1, rfl, by decide, tb_u1, tb_y1, tb_n1, Or.inl tb_w453, fun h => absurd h (by decide), fun h => absurd h (by decide), fun h => absurd h (by decide)⟩
theorem tb_f5_2 : dp_fok tb_cl tb_N "ProgramSlices$Machine" tb_W 123 (1, 2, 3) := ⟨"ProgramSlices$Code", tb_T1, 14, tb_t1, rfl, by decide, tb_u1, tb_y1, tb_n1, Or.inl tb_w454, fun h => absurd h (by decide), fun h => absurd h (by decide), fun h => absurd h (by decide)⟩
theorem tb_f5_3 : dp_fok tb_cl tb_N "ProgramSlices$Machine" tb_W 129 (1, 3, 3) := ⟨"ProgramSlices$Code", tb_T1, 14, tb_t1, rfl, by decide, tb_u1, tb_y1, tb_n1, Or.inl tb_w455, fun h => absurd h (by decide), fun h => absurd h (by decide), fun h => absurd h (by decide)⟩
theorem tb_f5_4 : dp_fok tb_cl tb_N "ProgramSlices$Machine" tb_W 104 (1, 7, 3) := ⟨"ProgramSlices$Code", tb_T1, 14, tb_t1, rfl, by decide, tb_u1, tb_y1, tb_n1, Or.inl tb_w456, fun h => absurd h (by decide), fun h => absurd h (by decide), fun h => absurd h (by decide)⟩
theorem tb_f5_5 : dp_fok tb_cl tb_N "ProgramSlices$Machine" tb_W 158 (1, 9, 3) := ⟨"ProgramSlices$Code", tb_T1, 14, tb_t1, rfl, by decide, tb_u1, tb_y1, tb_n1, Or.inl tb_w457, fun h => absurd h (by decide), fun h => absurd h (by decide), fun h => absurd h (by decide)⟩
theorem tb_f5_6 : dp_fok tb_cl tb_N "ProgramSlices$Machine" tb_W 81 (1, 10, 3) := ⟨"ProgramSlices$Code", tb_T1, 14, tb_t1, rfl, by decide, tb_u1, tb_y1, tb_n1, Or.inl tb_w458, fun h => absurd h (by decide), fun h => absurd h (by decide), fun h => absurd h (by decide)⟩
theorem tb_f5_7 : dp_fok tb_cl tb_N "ProgramSlices$Machine" tb_W 12 (5, 0, 2) := ⟨"ProgramSlices$Machine", tb_T5, 15, tb_t5, rfl, by decide, tb_u5, tb_y5, tb_n5, Or.inl tb_w459, fun h => absurd h (by decide), fun h => absurd h (by decide), fun _ => ⟨rfl, rfl, tb_w459, fun _ => ⟨rfl, rfl⟩⟩⟩
theorem tb_f5_8 : dp_fok tb_cl tb_N "ProgramSlices$Machine" tb_W 34 (5, 1, 2) := ⟨"ProgramSlices$Machine", tb_T5, 15, tb_t5, rfl, by decide, tb_u5, tb_y5, tb_n5, Or.inl tb_w460, fun h => absurd h (by decide), fun h => absurd h (by decide), fun _ => ⟨rfl, rfl, tb_w460, fun _ => ⟨rfl, rfl⟩⟩⟩
theorem tb_f5_9 : dp_fok tb_cl tb_N "ProgramSlices$Machine" tb_W 18 (5, 2, 2) := ⟨"ProgramSlices$Machine", tb_T5, 15, tb_t5, rfl, by decide, tb_u5, tb_y5, tb_n5, Or.inl tb_w461, fun h => absurd h (by decide), fun h => absurd h (by decide), fun _ => ⟨rfl, rfl, tb_w461, fun _ => ⟨rfl, rfl⟩⟩⟩
theorem tb_f5_10 : dp_fok tb_cl tb_N "ProgramSlices$Machine" tb_W 22 (5, 3, 2) := ⟨"ProgramSlices$Machine", tb_T5, 15, tb_t5, rfl, by decide, tb_u5, tb_y5, tb_n5, Or.inl tb_w462, fun h => absurd h (by decide), fun h => absurd h (by decide), fun _ => ⟨rfl, rfl, tb_w462, fun _ => ⟨rfl, rfl⟩⟩⟩
theorem tb_f5_11 : dp_fok tb_cl tb_N "ProgramSlices$Machine" tb_W 25 (5, 4, 2) := ⟨"ProgramSlices$Machine", tb_T5, 15, tb_t5, rfl, by decide, tb_u5, tb_y5, tb_n5, Or.inl tb_w463, fun h => absurd h (by decide), fun h => absurd h (by decide), fun _ => ⟨rfl, rfl, tb_w463, fun _ => ⟨rfl, rfl⟩⟩⟩
theorem tb_f5_12 : dp_fok tb_cl tb_N "ProgramSlices$Machine" tb_W 28 (5, 5, 2) := ⟨"ProgramSlices$Machine", tb_T5, 15, tb_t5, rfl, by decide, tb_u5, tb_y5, tb_n5, Or.inl tb_w464, fun h => absurd h (by decide), fun h => absurd h (by decide), fun _ => ⟨rfl, rfl, tb_w464, fun _ => ⟨rfl, rfl⟩⟩⟩
theorem tb_f5_13 : dp_fok tb_cl tb_N "ProgramSlices$Machine" tb_W 31 (5, 6, 2) := ⟨"ProgramSlices$Machine", tb_T5, 15, tb_t5, rfl, by decide, tb_u5, tb_y5, tb_n5, Or.inl tb_w465, fun h => absurd h (by decide), fun h => absurd h (by decide), fun _ => ⟨rfl, rfl, tb_w465, fun _ => ⟨rfl, rfl⟩⟩⟩
theorem tb_f5_14 : dp_fok tb_cl tb_N "ProgramSlices$Machine" tb_W 67 (5, 7, 0) := ⟨"ProgramSlices$Machine", tb_T5, 15, tb_t5, rfl, by decide, tb_u5, tb_y5, tb_n5, Or.inl tb_w466, fun _ => ⟨rfl, rfl⟩, fun h => absurd h (by decide), fun h => absurd h (by decide)⟩
theorem tb_f5_15 : dp_fok tb_cl tb_N "ProgramSlices$Machine" tb_W 78 (5, 8, 0) := ⟨"ProgramSlices$Machine", tb_T5, 15, tb_t5, rfl, by decide, tb_u5, tb_y5, tb_n5, Or.inl tb_w467, fun _ => ⟨rfl, rfl⟩, fun h => absurd h (by decide), fun h => absurd h (by decide)⟩
theorem tb_f5_16 : dp_fok tb_cl tb_N "ProgramSlices$Machine" tb_W 45 (5, 9, 0) := ⟨"ProgramSlices$Machine", tb_T5, 15, tb_t5, rfl, by decide, tb_u5, tb_y5, tb_n5, Or.inl tb_w468, fun _ => ⟨rfl, rfl⟩, fun h => absurd h (by decide), fun h => absurd h (by decide)⟩
theorem tb_f5_17 : dp_fok tb_cl tb_N "ProgramSlices$Machine" tb_W 58 (5, 10, 0) := ⟨"ProgramSlices$Machine", tb_T5, 15, tb_t5, rfl, by decide, tb_u5, tb_y5, tb_n5, Or.inl tb_w469, fun _ => ⟨rfl, rfl⟩, fun h => absurd h (by decide), fun h => absurd h (by decide)⟩
theorem tb_f5_18 : dp_fok tb_cl tb_N "ProgramSlices$Machine" tb_W 55 (5, 11, 0) := ⟨"ProgramSlices$Machine", tb_T5, 15, tb_t5, rfl, by decide, tb_u5, tb_y5, tb_n5, Or.inl tb_w470, fun _ => ⟨rfl, rfl⟩, fun h => absurd h (by decide), fun h => absurd h (by decide)⟩
theorem tb_f5_19 : dp_fok tb_cl tb_N "ProgramSlices$Machine" tb_W 61 (5, 12, 0) := ⟨"ProgramSlices$Machine", tb_T5, 15, tb_t5, rfl, by decide, tb_u5, tb_y5, tb_n5, Or.inl tb_w471, fun _ => ⟨rfl, rfl⟩, fun h => absurd h (by decide), fun h => absurd h (by decide)⟩
theorem tb_f5_20 : dp_fok tb_cl tb_N "ProgramSlices$Machine" tb_W 64 (5, 13, 0) := ⟨"ProgramSlices$Machine", tb_T5, 15, tb_t5, rfl, by decide, tb_u5, tb_y5, tb_n5, Or.inl tb_w472, fun _ => ⟨rfl, rfl⟩, fun h => absurd h (by decide), fun h => absurd h (by decide)⟩
theorem tb_f5_21 : dp_fok tb_cl tb_N "ProgramSlices$Machine" tb_W 38 (5, 14, 1) := ⟨"ProgramSlices$Machine", tb_T5, 15, tb_t5, rfl, by decide, tb_u5, tb_y5, tb_n5, Or.inl tb_w473, fun h => absurd h (by decide), fun _ => ⟨rfl, rfl⟩, fun h => absurd h (by decide)⟩
theorem tb_f5_ok : ∀ e ∈ tb_f5, dp_fok tb_cl tb_N "ProgramSlices$Machine" tb_W e.1 e.2 := List.forall_mem_cons.mpr ⟨tb_f5_0, List.forall_mem_cons.mpr ⟨tb_f5_1, List.forall_mem_cons.mpr ⟨tb_f5_2, List.forall_mem_cons.mpr ⟨tb_f5_3, List.forall_mem_cons.mpr ⟨tb_f5_4, List.forall_mem_cons.mpr ⟨tb_f5_5, List.forall_mem_cons.mpr ⟨tb_f5_6, List.forall_mem_cons.mpr ⟨tb_f5_7, List.forall_mem_cons.mpr ⟨tb_f5_8, List.forall_mem_cons.mpr ⟨tb_f5_9, List.forall_mem_cons.mpr ⟨tb_f5_10, List.forall_mem_cons.mpr ⟨tb_f5_11, List.forall_mem_cons.mpr ⟨tb_f5_12, List.forall_mem_cons.mpr ⟨tb_f5_13, List.forall_mem_cons.mpr ⟨tb_f5_14, List.forall_mem_cons.mpr ⟨tb_f5_15, List.forall_mem_cons.mpr ⟨tb_f5_16, List.forall_mem_cons.mpr ⟨tb_f5_17, List.forall_mem_cons.mpr ⟨tb_f5_18, List.forall_mem_cons.mpr ⟨tb_f5_19, List.forall_mem_cons.mpr ⟨tb_f5_20, List.forall_mem_cons.mpr ⟨tb_f5_21, fun _ h => absurd h List.not_mem_nil⟩⟩⟩⟩⟩⟩⟩⟩⟩⟩⟩⟩⟩⟩⟩⟩⟩⟩⟩⟩⟩⟩
def tb_c5 : List (Nat × Int32) := [(74, 1000000)]
theorem tb_c5_ok : ∀ e ∈ tb_c5, Jvm.Cond.constant "ProgramSlices$Machine" e.1 e.2 ∈ tb_W := List.forall_mem_cons.mpr ⟨tb_w474, fun _ h => absurd h List.not_mem_nil⟩
def tb_l5 : List (Nat × Int64) := []
theorem tb_l5_ok : ∀ e ∈ tb_l5, Jvm.Cond.constantLong "ProgramSlices$Machine" e.1 e.2 ∈ tb_W := fun _ h => absurd h List.not_mem_nil
def tb_s5 : List (Nat × Nat × Nat × Nat) := [(49, 24, 2, 0), (97, 67, 2, 0), (154, 127, 2, 0)]
theorem tb_s5_0 (cc : ByteArray) : sm_Cal tb_cl tb_N cc "ProgramSlices$Machine" tb_W (.invokestatic 49) (tb_ys 24) (tb_ws 24) 2 (dp_rcO 0) := sm_cal_S (tb_GS tb_w481 tb_w291 tb_w292 tb_w293) ⟨by decide, by decide, by decide +kernel⟩ (by decide)
theorem tb_s5_1 (cc : ByteArray) : sm_Cal tb_cl tb_N cc "ProgramSlices$Machine" tb_W (.invokestatic 97) (tb_ys 67) (tb_ws 67) 2 (dp_rcO 0) := sm_cal_SN (host := "ProgramSlices") (tb_G tb_w153) tb_w152 tb_w89 (tb_inn (i := 787) (by decide +kernel) rfl) ⟨by decide, by decide, by decide +kernel⟩ (by decide)
theorem tb_s5_2 (cc : ByteArray) : sm_Cal tb_cl tb_N cc "ProgramSlices$Machine" tb_W (.invokestatic 154) (tb_ys 127) (tb_ws 127) 2 (dp_rcO 0) := sm_cal_S (tb_GS tb_w539 tb_w540 tb_w21 tb_w541) ⟨by decide, by decide, by decide +kernel⟩ (by decide)
theorem tb_s5_ok : ∀ e ∈ tb_s5, ∀ cc, sm_Cal tb_cl tb_N cc "ProgramSlices$Machine" tb_W (.invokestatic e.1) (tb_ys e.2.1) (tb_ws e.2.1) e.2.2.1 (dp_rcO e.2.2.2) := List.forall_mem_cons.mpr ⟨tb_s5_0, List.forall_mem_cons.mpr ⟨tb_s5_1, List.forall_mem_cons.mpr ⟨tb_s5_2, fun _ h => absurd h List.not_mem_nil⟩⟩⟩
def tb_v5 : List (Nat × Nat × Nat × Nat) := [(42, 23, 1, 7), (70, 114, 5, 6), (145, 115, 3, 6), (75, 116, 1, 6), (86, 117, 1, 6), (126, 118, 2, 6), (89, 44, 2, 2), (93, 40, 2, 2), (101, 119, 2, 6), (107, 120, 2, 6), (114, 33, 2, 2), (117, 121, 2, 6), (148, 34, 2, 2), (120, 122, 2, 6), (132, 123, 3, 6), (161, 124, 2, 7), (151, 39, 2, 2), (139, 125, 3, 7), (142, 126, 2, 6)]
theorem tb_v5_0 (cc : ByteArray) : sm_Cal tb_cl tb_N cc "ProgramSlices$Machine" tb_W (.invokevirtual 42) (tb_ys 23) (tb_ws 23) 1 (dp_rcO 7) := sm_cal_V (ci := 6) (N0 := 4) (T0 := tb_T6) rfl (tb_GV tb_w477 tb_w478 tb_w479 tb_w173 tb_w480) ⟨by decide, by decide, by decide +kernel⟩ (by decide)
theorem tb_v5_1 (cc : ByteArray) : sm_Cal tb_cl tb_N cc "ProgramSlices$Machine" tb_W (.invokevirtual 70) (tb_ys 114) (tb_ws 114) 5 (dp_rcO 6) := sm_cal_V (ci := 5) (N0 := 15) (T0 := tb_T5) rfl (tb_GV tb_w482 tb_w483 tb_w484 tb_w21 tb_w485) ⟨by decide, by decide, by decide +kernel⟩ (by decide)
theorem tb_v5_2 (cc : ByteArray) : sm_Cal tb_cl tb_N cc "ProgramSlices$Machine" tb_W (.invokevirtual 145) (tb_ys 115) (tb_ws 115) 3 (dp_rcO 6) := sm_cal_V (ci := 5) (N0 := 15) (T0 := tb_T5) rfl (tb_GV tb_w486 tb_w487 tb_w488 tb_w21 tb_w489) ⟨by decide, by decide, by decide +kernel⟩ (by decide)
theorem tb_v5_3 (cc : ByteArray) : sm_Cal tb_cl tb_N cc "ProgramSlices$Machine" tb_W (.invokevirtual 75) (tb_ys 116) (tb_ws 116) 1 (dp_rcO 6) := sm_cal_V (ci := 5) (N0 := 15) (T0 := tb_T5) rfl (tb_GV tb_w490 tb_w491 tb_w492 tb_w21 tb_w493) ⟨by decide, by decide, by decide +kernel⟩ (by decide)
theorem tb_v5_4 (cc : ByteArray) : sm_Cal tb_cl tb_N cc "ProgramSlices$Machine" tb_W (.invokevirtual 86) (tb_ys 117) (tb_ws 117) 1 (dp_rcO 6) := sm_cal_V (ci := 5) (N0 := 15) (T0 := tb_T5) rfl (tb_GV tb_w494 tb_w495 tb_w496 tb_w21 tb_w497) ⟨by decide, by decide, by decide +kernel⟩ (by decide)
theorem tb_v5_5 (cc : ByteArray) : sm_Cal tb_cl tb_N cc "ProgramSlices$Machine" tb_W (.invokevirtual 126) (tb_ys 118) (tb_ws 118) 2 (dp_rcO 6) := sm_cal_V (ci := 5) (N0 := 15) (T0 := tb_T5) rfl (tb_GV tb_w498 tb_w499 tb_w500 tb_w21 tb_w501) ⟨by decide, by decide, by decide +kernel⟩ (by decide)
theorem tb_v5_6 (cc : ByteArray) : sm_Cal tb_cl tb_N cc "ProgramSlices$Machine" tb_W (.invokevirtual 89) (tb_ys 44) (tb_ws 44) 2 (dp_rcO 2) := sm_cal_V (ci := 1) (N0 := 14) (T0 := tb_T1) rfl (tb_GV tb_w502 tb_w100 tb_w101 tb_w10 tb_w102) ⟨by decide, by decide, by decide +kernel⟩ (by decide)
theorem tb_v5_7 (cc : ByteArray) : sm_Cal tb_cl tb_N cc "ProgramSlices$Machine" tb_W (.invokevirtual 93) (tb_ys 40) (tb_ws 40) 2 (dp_rcO 2) := sm_cal_V (ci := 1) (N0 := 14) (T0 := tb_T1) rfl (tb_GV tb_w503 tb_w384 tb_w385 tb_w10 tb_w386) ⟨by decide, by decide, by decide +kernel⟩ (by decide)
theorem tb_v5_8 (cc : ByteArray) : sm_Cal tb_cl tb_N cc "ProgramSlices$Machine" tb_W (.invokevirtual 101) (tb_ys 119) (tb_ws 119) 2 (dp_rcO 6) := sm_cal_V (ci := 5) (N0 := 15) (T0 := tb_T5) rfl (tb_GV tb_w504 tb_w505 tb_w506 tb_w21 tb_w507) ⟨by decide, by decide, by decide +kernel⟩ (by decide)
theorem tb_v5_9 (cc : ByteArray) : sm_Cal tb_cl tb_N cc "ProgramSlices$Machine" tb_W (.invokevirtual 107) (tb_ys 120) (tb_ws 120) 2 (dp_rcO 6) := sm_cal_V (ci := 5) (N0 := 15) (T0 := tb_T5) rfl (tb_GV tb_w508 tb_w509 tb_w510 tb_w21 tb_w511) ⟨by decide, by decide, by decide +kernel⟩ (by decide)
theorem tb_v5_10 (cc : ByteArray) : sm_Cal tb_cl tb_N cc "ProgramSlices$Machine" tb_W (.invokevirtual 114) (tb_ys 33) (tb_ws 33) 2 (dp_rcO 2) := sm_cal_V (ci := 1) (N0 := 14) (T0 := tb_T1) rfl (tb_GV tb_w512 tb_w108 tb_w109 tb_w10 tb_w110) ⟨by decide, by decide, by decide +kernel⟩ (by decide)
theorem tb_v5_11 (cc : ByteArray) : sm_Cal tb_cl tb_N cc "ProgramSlices$Machine" tb_W (.invokevirtual 117) (tb_ys 121) (tb_ws 121) 2 (dp_rcO 6) := sm_cal_V (ci := 5) (N0 := 15) (T0 := tb_T5) rfl (tb_GV tb_w513 tb_w514 tb_w515 tb_w21 tb_w516) ⟨by decide, by decide, by decide +kernel⟩ (by decide)
theorem tb_v5_12 (cc : ByteArray) : sm_Cal tb_cl tb_N cc "ProgramSlices$Machine" tb_W (.invokevirtual 148) (tb_ys 34) (tb_ws 34) 2 (dp_rcO 2) := sm_cal_V (ci := 1) (N0 := 14) (T0 := tb_T1) rfl (tb_GV tb_w517 tb_w112 tb_w113 tb_w10 tb_w114) ⟨by decide, by decide, by decide +kernel⟩ (by decide)
theorem tb_v5_13 (cc : ByteArray) : sm_Cal tb_cl tb_N cc "ProgramSlices$Machine" tb_W (.invokevirtual 120) (tb_ys 122) (tb_ws 122) 2 (dp_rcO 6) := sm_cal_V (ci := 5) (N0 := 15) (T0 := tb_T5) rfl (tb_GV tb_w518 tb_w519 tb_w520 tb_w21 tb_w521) ⟨by decide, by decide, by decide +kernel⟩ (by decide)
theorem tb_v5_14 (cc : ByteArray) : sm_Cal tb_cl tb_N cc "ProgramSlices$Machine" tb_W (.invokevirtual 132) (tb_ys 123) (tb_ws 123) 3 (dp_rcO 6) := sm_cal_V (ci := 5) (N0 := 15) (T0 := tb_T5) rfl (tb_GV tb_w522 tb_w523 tb_w524 tb_w21 tb_w525) ⟨by decide, by decide, by decide +kernel⟩ (by decide)
theorem tb_v5_15 (cc : ByteArray) : sm_Cal tb_cl tb_N cc "ProgramSlices$Machine" tb_W (.invokevirtual 161) (tb_ys 124) (tb_ws 124) 2 (dp_rcO 7) := sm_cal_V (ci := 6) (N0 := 4) (T0 := tb_T6) rfl (tb_GV tb_w526 tb_w527 tb_w528 tb_w173 tb_w529) ⟨by decide, by decide, by decide +kernel⟩ (by decide)
theorem tb_v5_16 (cc : ByteArray) : sm_Cal tb_cl tb_N cc "ProgramSlices$Machine" tb_W (.invokevirtual 151) (tb_ys 39) (tb_ws 39) 2 (dp_rcO 2) := sm_cal_V (ci := 1) (N0 := 14) (T0 := tb_T1) rfl (tb_GV tb_w530 tb_w380 tb_w381 tb_w10 tb_w382) ⟨by decide, by decide, by decide +kernel⟩ (by decide)
theorem tb_v5_17 (cc : ByteArray) : sm_Cal tb_cl tb_N cc "ProgramSlices$Machine" tb_W (.invokevirtual 139) (tb_ys 125) (tb_ws 125) 3 (dp_rcO 7) := sm_cal_V (ci := 6) (N0 := 4) (T0 := tb_T6) rfl (tb_GV tb_w531 tb_w532 tb_w533 tb_w173 tb_w534) ⟨by decide, by decide, by decide +kernel⟩ (by decide)
theorem tb_v5_18 (cc : ByteArray) : sm_Cal tb_cl tb_N cc "ProgramSlices$Machine" tb_W (.invokevirtual 142) (tb_ys 126) (tb_ws 126) 2 (dp_rcO 6) := sm_cal_V (ci := 5) (N0 := 15) (T0 := tb_T5) rfl (tb_GV tb_w535 tb_w536 tb_w537 tb_w21 tb_w538) ⟨by decide, by decide, by decide +kernel⟩ (by decide)
theorem tb_v5_ok : ∀ e ∈ tb_v5, ∀ cc, sm_Cal tb_cl tb_N cc "ProgramSlices$Machine" tb_W (.invokevirtual e.1) (tb_ys e.2.1) (tb_ws e.2.1) e.2.2.1 (dp_rcO e.2.2.2) := List.forall_mem_cons.mpr ⟨tb_v5_0, List.forall_mem_cons.mpr ⟨tb_v5_1, List.forall_mem_cons.mpr ⟨tb_v5_2, List.forall_mem_cons.mpr ⟨tb_v5_3, List.forall_mem_cons.mpr ⟨tb_v5_4, List.forall_mem_cons.mpr ⟨tb_v5_5, List.forall_mem_cons.mpr ⟨tb_v5_6, List.forall_mem_cons.mpr ⟨tb_v5_7, List.forall_mem_cons.mpr ⟨tb_v5_8, List.forall_mem_cons.mpr ⟨tb_v5_9, List.forall_mem_cons.mpr ⟨tb_v5_10, List.forall_mem_cons.mpr ⟨tb_v5_11, List.forall_mem_cons.mpr ⟨tb_v5_12, List.forall_mem_cons.mpr ⟨tb_v5_13, List.forall_mem_cons.mpr ⟨tb_v5_14, List.forall_mem_cons.mpr ⟨tb_v5_15, List.forall_mem_cons.mpr ⟨tb_v5_16, List.forall_mem_cons.mpr ⟨tb_v5_17, List.forall_mem_cons.mpr ⟨tb_v5_18, fun _ h => absurd h List.not_mem_nil⟩⟩⟩⟩⟩⟩⟩⟩⟩⟩⟩⟩⟩⟩⟩⟩⟩⟩⟩
def tb_i5 : List (Nat × Nat × Nat × Nat) := [(11, 6, 1, 7)]
theorem tb_i5_0 (cc : ByteArray) : sm_Cal tb_cl tb_N cc "ProgramSlices$Machine" tb_W (.invokespecial 11) (tb_ys 6) (tb_ws 6) 1 (dp_rcO 7) := sm_cal_IN (ret' := none) (host := "ProgramSlices") (ci := 6) (tb_G tb_w475) tb_w173 (tb_inn (i := 185) (by decide +kernel) rfl) tb_w476 rfl ⟨by decide, by decide, by decide +kernel⟩ (by decide)
theorem tb_i5_ok : ∀ e ∈ tb_i5, ∀ cc, sm_Cal tb_cl tb_N cc "ProgramSlices$Machine" tb_W (.invokespecial e.1) (tb_ys e.2.1) (tb_ws e.2.1) e.2.2.1 (dp_rcO e.2.2.2) := List.forall_mem_cons.mpr ⟨tb_i5_0, fun _ h => absurd h List.not_mem_nil⟩
def tb_e5 : List (Nat × Nat × List (Option (Option Nat))) := [(9, 6, [some none, none, some none, some none])]
theorem tb_e5_0 : dp_nok tb_cl "ProgramSlices$Machine" tb_W 9 (6, [some none, none, some none, some none]) := ⟨"ProgramSlices$Log", tb_T6, tb_t6, rfl, tb_u6, tb_y6, tb_w542, tb_w543, tb_w173, by
  intro j hj ad
  have hj : j < 4 := hj
  rcases (show j = 0 ∨ j = 1 ∨ j = 2 ∨ j = 3 by omega) with rfl | rfl | rfl | rfl <;> rfl, fun _ _ => rfl⟩
theorem tb_e5_ok : ∀ e ∈ tb_e5, dp_nok tb_cl "ProgramSlices$Machine" tb_W e.1 e.2 := List.forall_mem_cons.mpr ⟨tb_e5_0, fun _ h => absurd h List.not_mem_nil⟩
def tb_K5 : dp_K := (dp_lk tb_f5, dp_lk tb_c5, dp_lk tb_l5, fun i => match i % 3 with
  | 0 => dp_lk tb_s5 (i / 3)
  | 1 => dp_lk tb_v5 (i / 3)
  | _ => dp_lk tb_i5 (i / 3), dp_lk tb_e5, 3)
theorem tb_K5_ok : dp_Kok tb_cl tb_N "ProgramSlices$Machine" tb_W tb_ys tb_ws tb_K5 := by
  refine ⟨fun i F h => tb_f5_ok _ (dp_lk_mem h), fun i v h => tb_c5_ok _ (dp_lk_mem h), fun i v h => tb_l5_ok _ (dp_lk_mem h), fun i C h cc => ?_, fun i C h cc => ?_, fun i C h cc => ?_, fun i C h => tb_e5_ok _ (dp_lk_mem h), ⟨tb_w544, tb_w206, tb_w207⟩, tb_w208, tb_w209, tb_w210⟩
  · have h : dp_lk tb_s5 i = some C := by
      have e1 : 3 * i % 3 = 0 := by omega
      have e2 : 3 * i / 3 = i := by omega
      simpa [tb_K5, e1, e2] using h
    exact tb_s5_ok _ (dp_lk_mem h) cc
  · have h : dp_lk tb_v5 i = some C := by
      have e1 : (3 * i + 1) % 3 = 1 := by omega
      have e2 : (3 * i + 1) / 3 = i := by omega
      simpa [tb_K5, e1, e2] using h
    exact tb_v5_ok _ (dp_lk_mem h) cc
  · have h : dp_lk tb_i5 i = some C := by
      have e1 : (3 * i + 2) % 3 = 2 := by omega
      have e2 : (3 * i + 2) / 3 = i := by omega
      simpa [tb_K5, e1, e2] using h
    exact tb_i5_ok _ (dp_lk_mem h) cc
def tb_f6 : List (Nat × Nat × Nat × Nat) := [(9, 6, 0, 2), (21, 6, 1, 0), (15, 6, 2, 2), (18, 6, 3, 2)]
theorem tb_f6_0 : dp_fok tb_cl tb_N "ProgramSlices$Log" tb_W 9 (6, 0, 2) := ⟨"ProgramSlices$Log", tb_T6, 4, tb_t6, rfl, by decide, tb_u6, tb_y6, tb_n6, Or.inl tb_w545, fun h => absurd h (by decide), fun h => absurd h (by decide), fun _ => ⟨rfl, rfl, tb_w545, fun _ => ⟨rfl, rfl⟩⟩⟩
theorem tb_f6_1 : dp_fok tb_cl tb_N "ProgramSlices$Log" tb_W 21 (6, 1, 0) := ⟨"ProgramSlices$Log", tb_T6, 4, tb_t6, rfl, by decide, tb_u6, tb_y6, tb_n6, Or.inl tb_w546, fun _ => ⟨rfl, rfl⟩, fun h => absurd h (by decide), fun h => absurd h (by decide)⟩
theorem tb_f6_2 : dp_fok tb_cl tb_N "ProgramSlices$Log" tb_W 15 (6, 2, 2) := ⟨"ProgramSlices$Log", tb_T6, 4, tb_t6, rfl, by decide, tb_u6, tb_y6, tb_n6, Or.inl tb_w547, fun h => absurd h (by decide), fun h => absurd h (by decide), fun _ => ⟨rfl, rfl, tb_w547, fun _ => ⟨rfl, rfl⟩⟩⟩
theorem tb_f6_3 : dp_fok tb_cl tb_N "ProgramSlices$Log" tb_W 18 (6, 3, 2) := ⟨"ProgramSlices$Log", tb_T6, 4, tb_t6, rfl, by decide, tb_u6, tb_y6, tb_n6, Or.inl tb_w548, fun h => absurd h (by decide), fun h => absurd h (by decide), fun _ => ⟨rfl, rfl, tb_w548, fun _ => ⟨rfl, rfl⟩⟩⟩
theorem tb_f6_ok : ∀ e ∈ tb_f6, dp_fok tb_cl tb_N "ProgramSlices$Log" tb_W e.1 e.2 := List.forall_mem_cons.mpr ⟨tb_f6_0, List.forall_mem_cons.mpr ⟨tb_f6_1, List.forall_mem_cons.mpr ⟨tb_f6_2, List.forall_mem_cons.mpr ⟨tb_f6_3, fun _ h => absurd h List.not_mem_nil⟩⟩⟩⟩
def tb_c6 : List (Nat × Int32) := []
theorem tb_c6_ok : ∀ e ∈ tb_c6, Jvm.Cond.constant "ProgramSlices$Log" e.1 e.2 ∈ tb_W := fun _ h => absurd h List.not_mem_nil
def tb_l6 : List (Nat × Int64) := []
theorem tb_l6_ok : ∀ e ∈ tb_l6, Jvm.Cond.constantLong "ProgramSlices$Log" e.1 e.2 ∈ tb_W := fun _ h => absurd h List.not_mem_nil
def tb_s6 : List (Nat × Nat × Nat × Nat) := [(25, 24, 2, 0)]
theorem tb_s6_0 (cc : ByteArray) : sm_Cal tb_cl tb_N cc "ProgramSlices$Log" tb_W (.invokestatic 25) (tb_ys 24) (tb_ws 24) 2 (dp_rcO 0) := sm_cal_S (tb_GS tb_w549 tb_w291 tb_w292 tb_w293) ⟨by decide, by decide, by decide +kernel⟩ (by decide)
theorem tb_s6_ok : ∀ e ∈ tb_s6, ∀ cc, sm_Cal tb_cl tb_N cc "ProgramSlices$Log" tb_W (.invokestatic e.1) (tb_ys e.2.1) (tb_ws e.2.1) e.2.2.1 (dp_rcO e.2.2.2) := List.forall_mem_cons.mpr ⟨tb_s6_0, fun _ h => absurd h List.not_mem_nil⟩
def tb_v6 : List (Nat × Nat × Nat × Nat) := []
theorem tb_v6_ok : ∀ e ∈ tb_v6, ∀ cc, sm_Cal tb_cl tb_N cc "ProgramSlices$Log" tb_W (.invokevirtual e.1) (tb_ys e.2.1) (tb_ws e.2.1) e.2.2.1 (dp_rcO e.2.2.2) := fun _ h => absurd h List.not_mem_nil
def tb_i6 : List (Nat × Nat × Nat × Nat) := []
theorem tb_i6_ok : ∀ e ∈ tb_i6, ∀ cc, sm_Cal tb_cl tb_N cc "ProgramSlices$Log" tb_W (.invokespecial e.1) (tb_ys e.2.1) (tb_ws e.2.1) e.2.2.1 (dp_rcO e.2.2.2) := fun _ h => absurd h List.not_mem_nil
def tb_e6 : List (Nat × Nat × List (Option (Option Nat))) := []
theorem tb_e6_ok : ∀ e ∈ tb_e6, dp_nok tb_cl "ProgramSlices$Log" tb_W e.1 e.2 := fun _ h => absurd h List.not_mem_nil
def tb_K6 : dp_K := (dp_lk tb_f6, dp_lk tb_c6, dp_lk tb_l6, fun i => match i % 3 with
  | 0 => dp_lk tb_s6 (i / 3)
  | 1 => dp_lk tb_v6 (i / 3)
  | _ => dp_lk tb_i6 (i / 3), dp_lk tb_e6, 3)
theorem tb_K6_ok : dp_Kok tb_cl tb_N "ProgramSlices$Log" tb_W tb_ys tb_ws tb_K6 := by
  refine ⟨fun i F h => tb_f6_ok _ (dp_lk_mem h), fun i v h => tb_c6_ok _ (dp_lk_mem h), fun i v h => tb_l6_ok _ (dp_lk_mem h), fun i C h cc => ?_, fun i C h cc => ?_, fun i C h cc => ?_, fun i C h => tb_e6_ok _ (dp_lk_mem h), ⟨tb_w550, tb_w206, tb_w207⟩, tb_w208, tb_w209, tb_w210⟩
  · have h : dp_lk tb_s6 i = some C := by
      have e1 : 3 * i % 3 = 0 := by omega
      have e2 : 3 * i / 3 = i := by omega
      simpa [tb_K6, e1, e2] using h
    exact tb_s6_ok _ (dp_lk_mem h) cc
  · have h : dp_lk tb_v6 i = some C := by
      have e1 : (3 * i + 1) % 3 = 1 := by omega
      have e2 : (3 * i + 1) / 3 = i := by omega
      simpa [tb_K6, e1, e2] using h
    exact tb_v6_ok _ (dp_lk_mem h) cc
  · have h : dp_lk tb_i6 i = some C := by
      have e1 : (3 * i + 2) % 3 = 2 := by omega
      have e2 : (3 * i + 2) / 3 = i := by omega
      simpa [tb_K6, e1, e2] using h
    exact tb_i6_ok _ (dp_lk_mem h) cc
def tb_f7 : List (Nat × Nat × Nat × Nat) := [(21, 7, 0, 0), (9, 7, 1, 2), (15, 7, 2, 2), (18, 7, 3, 2)]
theorem tb_f7_0 : dp_fok tb_cl tb_N "ProgramSlices$Order" tb_W 21 (7, 0, 0) := ⟨"ProgramSlices$Order", tb_T7, 4, tb_t7, rfl, by decide, tb_u7, tb_y7, tb_n7, Or.inl tb_w551, fun _ => ⟨rfl, rfl⟩, fun h => absurd h (by decide), fun h => absurd h (by decide)⟩
theorem tb_f7_1 : dp_fok tb_cl tb_N "ProgramSlices$Order" tb_W 9 (7, 1, 2) := ⟨"ProgramSlices$Order", tb_T7, 4, tb_t7, rfl, by decide, tb_u7, tb_y7, tb_n7, Or.inl tb_w552, fun h => absurd h (by decide), fun h => absurd h (by decide), fun _ => ⟨rfl, rfl, tb_w552, fun _ => ⟨rfl, rfl⟩⟩⟩
theorem tb_f7_2 : dp_fok tb_cl tb_N "ProgramSlices$Order" tb_W 15 (7, 2, 2) := ⟨"ProgramSlices$Order", tb_T7, 4, tb_t7, rfl, by decide, tb_u7, tb_y7, tb_n7, Or.inl tb_w553, fun h => absurd h (by decide), fun h => absurd h (by decide), fun _ => ⟨rfl, rfl, tb_w553, fun _ => ⟨rfl, rfl⟩⟩⟩
theorem tb_f7_3 : dp_fok tb_cl tb_N "ProgramSlices$Order" tb_W 18 (7, 3, 2) := ⟨"ProgramSlices$Order", tb_T7, 4, tb_t7, rfl, by decide, tb_u7, tb_y7, tb_n7, Or.inl tb_w554, fun h => absurd h (by decide), fun h => absurd h (by decide), fun _ => ⟨rfl, rfl, tb_w554, fun _ => ⟨rfl, rfl⟩⟩⟩
theorem tb_f7_ok : ∀ e ∈ tb_f7, dp_fok tb_cl tb_N "ProgramSlices$Order" tb_W e.1 e.2 := List.forall_mem_cons.mpr ⟨tb_f7_0, List.forall_mem_cons.mpr ⟨tb_f7_1, List.forall_mem_cons.mpr ⟨tb_f7_2, List.forall_mem_cons.mpr ⟨tb_f7_3, fun _ h => absurd h List.not_mem_nil⟩⟩⟩⟩
def tb_c7 : List (Nat × Int32) := []
theorem tb_c7_ok : ∀ e ∈ tb_c7, Jvm.Cond.constant "ProgramSlices$Order" e.1 e.2 ∈ tb_W := fun _ h => absurd h List.not_mem_nil
def tb_l7 : List (Nat × Int64) := []
theorem tb_l7_ok : ∀ e ∈ tb_l7, Jvm.Cond.constantLong "ProgramSlices$Order" e.1 e.2 ∈ tb_W := fun _ h => absurd h List.not_mem_nil
def tb_s7 : List (Nat × Nat × Nat × Nat) := [(25, 24, 2, 0), (35, 67, 2, 0)]
theorem tb_s7_0 (cc : ByteArray) : sm_Cal tb_cl tb_N cc "ProgramSlices$Order" tb_W (.invokestatic 25) (tb_ys 24) (tb_ws 24) 2 (dp_rcO 0) := sm_cal_S (tb_GS tb_w555 tb_w291 tb_w292 tb_w293) ⟨by decide, by decide, by decide +kernel⟩ (by decide)
theorem tb_s7_1 (cc : ByteArray) : sm_Cal tb_cl tb_N cc "ProgramSlices$Order" tb_W (.invokestatic 35) (tb_ys 67) (tb_ws 67) 2 (dp_rcO 0) := sm_cal_SN (host := "ProgramSlices") (tb_G tb_w153) tb_w152 tb_w89 (tb_inn (i := 629) (by decide +kernel) rfl) ⟨by decide, by decide, by decide +kernel⟩ (by decide)
theorem tb_s7_ok : ∀ e ∈ tb_s7, ∀ cc, sm_Cal tb_cl tb_N cc "ProgramSlices$Order" tb_W (.invokestatic e.1) (tb_ys e.2.1) (tb_ws e.2.1) e.2.2.1 (dp_rcO e.2.2.2) := List.forall_mem_cons.mpr ⟨tb_s7_0, List.forall_mem_cons.mpr ⟨tb_s7_1, fun _ h => absurd h List.not_mem_nil⟩⟩
def tb_v7 : List (Nat × Nat × Nat × Nat) := [(31, 85, 3, 8), (38, 90, 1, 8), (42, 91, 1, 8), (49, 92, 2, 8), (45, 93, 1, 8)]
theorem tb_v7_0 (cc : ByteArray) : sm_Cal tb_cl tb_N cc "ProgramSlices$Order" tb_W (.invokevirtual 31) (tb_ys 85) (tb_ws 85) 3 (dp_rcO 8) := sm_cal_V (ci := 7) (N0 := 4) (T0 := tb_T7) rfl (tb_GV tb_w556 tb_w557 tb_w558 tb_w25 tb_w559) ⟨by decide, by decide, by decide +kernel⟩ (by decide)
theorem tb_v7_1 (cc : ByteArray) : sm_Cal tb_cl tb_N cc "ProgramSlices$Order" tb_W (.invokevirtual 38) (tb_ys 90) (tb_ws 90) 1 (dp_rcO 8) := sm_cal_V (ci := 7) (N0 := 4) (T0 := tb_T7) rfl (tb_GV tb_w560 tb_w561 tb_w562 tb_w25 tb_w563) ⟨by decide, by decide, by decide +kernel⟩ (by decide)
theorem tb_v7_2 (cc : ByteArray) : sm_Cal tb_cl tb_N cc "ProgramSlices$Order" tb_W (.invokevirtual 42) (tb_ys 91) (tb_ws 91) 1 (dp_rcO 8) := sm_cal_V (ci := 7) (N0 := 4) (T0 := tb_T7) rfl (tb_GV tb_w564 tb_w565 tb_w566 tb_w25 tb_w567) ⟨by decide, by decide, by decide +kernel⟩ (by decide)
theorem tb_v7_3 (cc : ByteArray) : sm_Cal tb_cl tb_N cc "ProgramSlices$Order" tb_W (.invokevirtual 49) (tb_ys 92) (tb_ws 92) 2 (dp_rcO 8) := sm_cal_V (ci := 7) (N0 := 4) (T0 := tb_T7) rfl (tb_GV tb_w568 tb_w569 tb_w570 tb_w25 tb_w571) ⟨by decide, by decide, by decide +kernel⟩ (by decide)
theorem tb_v7_4 (cc : ByteArray) : sm_Cal tb_cl tb_N cc "ProgramSlices$Order" tb_W (.invokevirtual 45) (tb_ys 93) (tb_ws 93) 1 (dp_rcO 8) := sm_cal_V (ci := 7) (N0 := 4) (T0 := tb_T7) rfl (tb_GV tb_w572 tb_w573 tb_w574 tb_w25 tb_w575) ⟨by decide, by decide, by decide +kernel⟩ (by decide)
theorem tb_v7_ok : ∀ e ∈ tb_v7, ∀ cc, sm_Cal tb_cl tb_N cc "ProgramSlices$Order" tb_W (.invokevirtual e.1) (tb_ys e.2.1) (tb_ws e.2.1) e.2.2.1 (dp_rcO e.2.2.2) := List.forall_mem_cons.mpr ⟨tb_v7_0, List.forall_mem_cons.mpr ⟨tb_v7_1, List.forall_mem_cons.mpr ⟨tb_v7_2, List.forall_mem_cons.mpr ⟨tb_v7_3, List.forall_mem_cons.mpr ⟨tb_v7_4, fun _ h => absurd h List.not_mem_nil⟩⟩⟩⟩⟩
def tb_i7 : List (Nat × Nat × Nat × Nat) := []
theorem tb_i7_ok : ∀ e ∈ tb_i7, ∀ cc, sm_Cal tb_cl tb_N cc "ProgramSlices$Order" tb_W (.invokespecial e.1) (tb_ys e.2.1) (tb_ws e.2.1) e.2.2.1 (dp_rcO e.2.2.2) := fun _ h => absurd h List.not_mem_nil
def tb_e7 : List (Nat × Nat × List (Option (Option Nat))) := []
theorem tb_e7_ok : ∀ e ∈ tb_e7, dp_nok tb_cl "ProgramSlices$Order" tb_W e.1 e.2 := fun _ h => absurd h List.not_mem_nil
def tb_K7 : dp_K := (dp_lk tb_f7, dp_lk tb_c7, dp_lk tb_l7, fun i => match i % 3 with
  | 0 => dp_lk tb_s7 (i / 3)
  | 1 => dp_lk tb_v7 (i / 3)
  | _ => dp_lk tb_i7 (i / 3), dp_lk tb_e7, 3)
theorem tb_K7_ok : dp_Kok tb_cl tb_N "ProgramSlices$Order" tb_W tb_ys tb_ws tb_K7 := by
  refine ⟨fun i F h => tb_f7_ok _ (dp_lk_mem h), fun i v h => tb_c7_ok _ (dp_lk_mem h), fun i v h => tb_l7_ok _ (dp_lk_mem h), fun i C h cc => ?_, fun i C h cc => ?_, fun i C h cc => ?_, fun i C h => tb_e7_ok _ (dp_lk_mem h), ⟨tb_w576, tb_w206, tb_w207⟩, tb_w208, tb_w209, tb_w210⟩
  · have h : dp_lk tb_s7 i = some C := by
      have e1 : 3 * i % 3 = 0 := by omega
      have e2 : 3 * i / 3 = i := by omega
      simpa [tb_K7, e1, e2] using h
    exact tb_s7_ok _ (dp_lk_mem h) cc
  · have h : dp_lk tb_v7 i = some C := by
      have e1 : (3 * i + 1) % 3 = 1 := by omega
      have e2 : (3 * i + 1) / 3 = i := by omega
      simpa [tb_K7, e1, e2] using h
    exact tb_v7_ok _ (dp_lk_mem h) cc
  · have h : dp_lk tb_i7 i = some C := by
      have e1 : (3 * i + 2) % 3 = 2 := by omega
      have e2 : (3 * i + 2) / 3 = i := by omega
      simpa [tb_K7, e1, e2] using h
    exact tb_i7_ok _ (dp_lk_mem h) cc
def tb_f8 : List (Nat × Nat × Nat × Nat) := [(43, 1, 0, 3), (64, 1, 1, 3), (70, 1, 2, 3), (23, 1, 4, 0), (15, 8, 0, 2), (19, 8, 1, 2), (9, 8, 2, 2)]
theorem tb_f8_0 : dp_fok tb_cl tb_N "ProgramSlices$Flows" tb_W 43 (1, 0, 3) := ⟨"ProgramSlices$Code", tb_T1, 14, tb_t1, rfl, by decide, tb_u1, tb_y1, tb_n1, Or.inl tb_w577, fun h => absurd h (by decide), fun h => absurd h (by decide), fun h => absurd h (by decide)⟩
theorem tb_f8_1 : dp_fok tb_cl tb_N "ProgramSlices$Flows" tb_W 64 (1, 1, 3) := ⟨"ProgramSlices$Code", tb_T1, 14, tb_t1, rfl, by decide, tb_u1, tb_y1, tb_n1, Or.inl tb_w578, fun h => absurd h (by decide), fun h => absurd h (by decide), fun h => absurd h (by decide)⟩
theorem tb_f8_2 : dp_fok tb_cl tb_N "ProgramSlices$Flows" tb_W 70 (1, 2, 3) := ⟨"ProgramSlices$Code", tb_T1, 14, tb_t1, rfl, by decide, tb_u1, tb_y1, tb_n1, Or.inl tb_w579, fun h => absurd h (by decide), fun h => absurd h (by decide), fun h => absurd h (by decide)⟩
theorem tb_f8_3 : dp_fok tb_cl tb_N "ProgramSlices$Flows" tb_W 23 (1, 4, 0) := ⟨"ProgramSlices$Code", tb_T1, 14, tb_t1, rfl, by decide, tb_u1, tb_y1, tb_n1, Or.inl tb_w580, fun _ => ⟨rfl, rfl⟩, fun h => absurd h (by decide), fun h => absurd h (by decide)⟩
theorem tb_f8_4 : dp_fok tb_cl tb_N "ProgramSlices$Flows" tb_W 15 (8, 0, 2) := ⟨"ProgramSlices$Flows", tb_T8, 3, tb_t8, rfl, by decide, tb_u8, tb_y8, tb_n8, Or.inl tb_w581, fun h => absurd h (by decide), fun h => absurd h (by decide), fun _ => ⟨rfl, rfl, tb_w581, fun _ => ⟨rfl, rfl⟩⟩⟩
theorem tb_f8_5 : dp_fok tb_cl tb_N "ProgramSlices$Flows" tb_W 19 (8, 1, 2) := ⟨"ProgramSlices$Flows", tb_T8, 3, tb_t8, rfl, by decide, tb_u8, tb_y8, tb_n8, Or.inl tb_w582, fun h => absurd h (by decide), fun h => absurd h (by decide), fun _ => ⟨rfl, rfl, tb_w582, fun _ => ⟨rfl, rfl⟩⟩⟩
theorem tb_f8_6 : dp_fok tb_cl tb_N "ProgramSlices$Flows" tb_W 9 (8, 2, 2) := ⟨"ProgramSlices$Flows", tb_T8, 3, tb_t8, rfl, by decide, tb_u8, tb_y8, tb_n8, Or.inl tb_w583, fun h => absurd h (by decide), fun h => absurd h (by decide), fun _ => ⟨rfl, rfl, tb_w583, fun _ => ⟨rfl, rfl⟩⟩⟩
theorem tb_f8_ok : ∀ e ∈ tb_f8, dp_fok tb_cl tb_N "ProgramSlices$Flows" tb_W e.1 e.2 := List.forall_mem_cons.mpr ⟨tb_f8_0, List.forall_mem_cons.mpr ⟨tb_f8_1, List.forall_mem_cons.mpr ⟨tb_f8_2, List.forall_mem_cons.mpr ⟨tb_f8_3, List.forall_mem_cons.mpr ⟨tb_f8_4, List.forall_mem_cons.mpr ⟨tb_f8_5, List.forall_mem_cons.mpr ⟨tb_f8_6, fun _ h => absurd h List.not_mem_nil⟩⟩⟩⟩⟩⟩⟩
def tb_c8 : List (Nat × Int32) := []
theorem tb_c8_ok : ∀ e ∈ tb_c8, Jvm.Cond.constant "ProgramSlices$Flows" e.1 e.2 ∈ tb_W := fun _ h => absurd h List.not_mem_nil
def tb_l8 : List (Nat × Int64) := []
theorem tb_l8_ok : ∀ e ∈ tb_l8, Jvm.Cond.constantLong "ProgramSlices$Flows" e.1 e.2 ∈ tb_W := fun _ h => absurd h List.not_mem_nil
def tb_s8 : List (Nat × Nat × Nat × Nat) := [(54, 67, 2, 0), (49, 206, 1, 0)]
theorem tb_s8_0 (cc : ByteArray) : sm_Cal tb_cl tb_N cc "ProgramSlices$Flows" tb_W (.invokestatic 54) (tb_ys 67) (tb_ws 67) 2 (dp_rcO 0) := sm_cal_SN (host := "ProgramSlices") (tb_G tb_w153) tb_w152 tb_w89 (tb_inn (i := 871) (by decide +kernel) rfl) ⟨by decide, by decide, by decide +kernel⟩ (by decide)
theorem tb_s8_1 (cc : ByteArray) : sm_Cal tb_cl tb_N cc "ProgramSlices$Flows" tb_W (.invokestatic 49) (tb_ys 206) (tb_ws 206) 1 (dp_rcO 0) := sm_cal_S (tb_GS tb_w607 tb_w608 tb_w609 tb_w610) ⟨by decide, by decide, by decide +kernel⟩ (by decide)
theorem tb_s8_ok : ∀ e ∈ tb_s8, ∀ cc, sm_Cal tb_cl tb_N cc "ProgramSlices$Flows" tb_W (.invokestatic e.1) (tb_ys e.2.1) (tb_ws e.2.1) e.2.2.1 (dp_rcO e.2.2.2) := List.forall_mem_cons.mpr ⟨tb_s8_0, List.forall_mem_cons.mpr ⟨tb_s8_1, fun _ h => absurd h List.not_mem_nil⟩⟩
def tb_v8 : List (Nat × Nat × Nat × Nat) := [(29, 77, 2, 9), (33, 78, 3, 5), (39, 79, 2, 5), (46, 137, 2, 9), (58, 93, 1, 8), (67, 138, 2, 8), (73, 139, 2, 8), (76, 85, 3, 8)]
theorem tb_v8_0 (cc : ByteArray) : sm_Cal tb_cl tb_N cc "ProgramSlices$Flows" tb_W (.invokevirtual 29) (tb_ys 77) (tb_ws 77) 2 (dp_rcO 9) := sm_cal_V (ci := 8) (N0 := 3) (T0 := tb_T8) rfl (tb_GV tb_w584 tb_w585 tb_w586 tb_w29 tb_w587) ⟨by decide, by decide, by decide +kernel⟩ (by decide)
theorem tb_v8_1 (cc : ByteArray) : sm_Cal tb_cl tb_N cc "ProgramSlices$Flows" tb_W (.invokevirtual 33) (tb_ys 78) (tb_ws 78) 3 (dp_rcO 5) := sm_cal_V (ci := 4) (N0 := 5) (T0 := tb_T4) rfl (tb_GV tb_w588 tb_w120 tb_w121 tb_w17 tb_w122) ⟨by decide, by decide, by decide +kernel⟩ (by decide)
theorem tb_v8_2 (cc : ByteArray) : sm_Cal tb_cl tb_N cc "ProgramSlices$Flows" tb_W (.invokevirtual 39) (tb_ys 79) (tb_ws 79) 2 (dp_rcO 5) := sm_cal_V (ci := 4) (N0 := 5) (T0 := tb_T4) rfl (tb_GV tb_w589 tb_w590 tb_w591 tb_w17 tb_w592) ⟨by decide, by decide, by decide +kernel⟩ (by decide)
theorem tb_v8_3 (cc : ByteArray) : sm_Cal tb_cl tb_N cc "ProgramSlices$Flows" tb_W (.invokevirtual 46) (tb_ys 137) (tb_ws 137) 2 (dp_rcO 9) := sm_cal_V (ci := 8) (N0 := 3) (T0 := tb_T8) rfl (tb_GV tb_w593 tb_w594 tb_w595 tb_w29 tb_w596) ⟨by decide, by decide, by decide +kernel⟩ (by decide)
theorem tb_v8_4 (cc : ByteArray) : sm_Cal tb_cl tb_N cc "ProgramSlices$Flows" tb_W (.invokevirtual 58) (tb_ys 93) (tb_ws 93) 1 (dp_rcO 8) := sm_cal_V (ci := 7) (N0 := 4) (T0 := tb_T7) rfl (tb_GV tb_w597 tb_w573 tb_w574 tb_w25 tb_w575) ⟨by decide, by decide, by decide +kernel⟩ (by decide)
theorem tb_v8_5 (cc : ByteArray) : sm_Cal tb_cl tb_N cc "ProgramSlices$Flows" tb_W (.invokevirtual 67) (tb_ys 138) (tb_ws 138) 2 (dp_rcO 8) := sm_cal_V (ci := 7) (N0 := 4) (T0 := tb_T7) rfl (tb_GV tb_w598 tb_w599 tb_w600 tb_w25 tb_w601) ⟨by decide, by decide, by decide +kernel⟩ (by decide)
theorem tb_v8_6 (cc : ByteArray) : sm_Cal tb_cl tb_N cc "ProgramSlices$Flows" tb_W (.invokevirtual 73) (tb_ys 139) (tb_ws 139) 2 (dp_rcO 8) := sm_cal_V (ci := 7) (N0 := 4) (T0 := tb_T7) rfl (tb_GV tb_w602 tb_w603 tb_w604 tb_w25 tb_w605) ⟨by decide, by decide, by decide +kernel⟩ (by decide)
theorem tb_v8_7 (cc : ByteArray) : sm_Cal tb_cl tb_N cc "ProgramSlices$Flows" tb_W (.invokevirtual 76) (tb_ys 85) (tb_ws 85) 3 (dp_rcO 8) := sm_cal_V (ci := 7) (N0 := 4) (T0 := tb_T7) rfl (tb_GV tb_w606 tb_w557 tb_w558 tb_w25 tb_w559) ⟨by decide, by decide, by decide +kernel⟩ (by decide)
theorem tb_v8_ok : ∀ e ∈ tb_v8, ∀ cc, sm_Cal tb_cl tb_N cc "ProgramSlices$Flows" tb_W (.invokevirtual e.1) (tb_ys e.2.1) (tb_ws e.2.1) e.2.2.1 (dp_rcO e.2.2.2) := List.forall_mem_cons.mpr ⟨tb_v8_0, List.forall_mem_cons.mpr ⟨tb_v8_1, List.forall_mem_cons.mpr ⟨tb_v8_2, List.forall_mem_cons.mpr ⟨tb_v8_3, List.forall_mem_cons.mpr ⟨tb_v8_4, List.forall_mem_cons.mpr ⟨tb_v8_5, List.forall_mem_cons.mpr ⟨tb_v8_6, List.forall_mem_cons.mpr ⟨tb_v8_7, fun _ h => absurd h List.not_mem_nil⟩⟩⟩⟩⟩⟩⟩⟩
def tb_i8 : List (Nat × Nat × Nat × Nat) := []
theorem tb_i8_ok : ∀ e ∈ tb_i8, ∀ cc, sm_Cal tb_cl tb_N cc "ProgramSlices$Flows" tb_W (.invokespecial e.1) (tb_ys e.2.1) (tb_ws e.2.1) e.2.2.1 (dp_rcO e.2.2.2) := fun _ h => absurd h List.not_mem_nil
def tb_e8 : List (Nat × Nat × List (Option (Option Nat))) := []
theorem tb_e8_ok : ∀ e ∈ tb_e8, dp_nok tb_cl "ProgramSlices$Flows" tb_W e.1 e.2 := fun _ h => absurd h List.not_mem_nil
def tb_K8 : dp_K := (dp_lk tb_f8, dp_lk tb_c8, dp_lk tb_l8, fun i => match i % 3 with
  | 0 => dp_lk tb_s8 (i / 3)
  | 1 => dp_lk tb_v8 (i / 3)
  | _ => dp_lk tb_i8 (i / 3), dp_lk tb_e8, 3)
theorem tb_K8_ok : dp_Kok tb_cl tb_N "ProgramSlices$Flows" tb_W tb_ys tb_ws tb_K8 := by
  refine ⟨fun i F h => tb_f8_ok _ (dp_lk_mem h), fun i v h => tb_c8_ok _ (dp_lk_mem h), fun i v h => tb_l8_ok _ (dp_lk_mem h), fun i C h cc => ?_, fun i C h cc => ?_, fun i C h cc => ?_, fun i C h => tb_e8_ok _ (dp_lk_mem h), ⟨tb_w611, tb_w206, tb_w207⟩, tb_w208, tb_w209, tb_w210⟩
  · have h : dp_lk tb_s8 i = some C := by
      have e1 : 3 * i % 3 = 0 := by omega
      have e2 : 3 * i / 3 = i := by omega
      simpa [tb_K8, e1, e2] using h
    exact tb_s8_ok _ (dp_lk_mem h) cc
  · have h : dp_lk tb_v8 i = some C := by
      have e1 : (3 * i + 1) % 3 = 1 := by omega
      have e2 : (3 * i + 1) / 3 = i := by omega
      simpa [tb_K8, e1, e2] using h
    exact tb_v8_ok _ (dp_lk_mem h) cc
  · have h : dp_lk tb_i8 i = some C := by
      have e1 : (3 * i + 2) % 3 = 2 := by omega
      have e2 : (3 * i + 2) / 3 = i := by omega
      simpa [tb_K8, e1, e2] using h
    exact tb_i8_ok _ (dp_lk_mem h) cc
def tb_f9 : List (Nat × Nat × Nat × Nat) := [(42, 1, 4, 0), (9, 9, 0, 2), (15, 9, 1, 1), (29, 9, 2, 1), (32, 9, 3, 0)]
theorem tb_f9_0 : dp_fok tb_cl tb_N "ProgramSlices$Slice" tb_W 42 (1, 4, 0) := ⟨"ProgramSlices$Code", tb_T1, 14, tb_t1, rfl, by decide, tb_u1, tb_y1, tb_n1, Or.inl tb_w612, fun _ => ⟨rfl, rfl⟩, fun h => absurd h (by decide), fun h => absurd h (by decide)⟩
theorem tb_f9_1 : dp_fok tb_cl tb_N "ProgramSlices$Slice" tb_W 9 (9, 0, 2) := ⟨"ProgramSlices$Slice", tb_T9, 4, tb_t9, rfl, by decide, tb_u9, tb_y9, tb_n9, Or.inl tb_w613, fun h => absurd h (by decide), fun h => absurd h (by decide), fun _ => ⟨rfl, rfl, tb_w613, fun _ => ⟨rfl, rfl⟩⟩⟩
theorem tb_f9_2 : dp_fok tb_cl tb_N "ProgramSlices$Slice" tb_W 15 (9, 1, 1) := ⟨"ProgramSlices$Slice", tb_T9, 4, tb_t9, rfl, by decide, tb_u9, tb_y9, tb_n9, Or.inl tb_w614, fun h => absurd h (by decide), fun _ => ⟨rfl, rfl⟩, fun h => absurd h (by decide)⟩
theorem tb_f9_3 : dp_fok tb_cl tb_N "ProgramSlices$Slice" tb_W 29 (9, 2, 1) := ⟨"ProgramSlices$Slice", tb_T9, 4, tb_t9, rfl, by decide, tb_u9, tb_y9, tb_n9, Or.inl tb_w615, fun h => absurd h (by decide), fun _ => ⟨rfl, rfl⟩, fun h => absurd h (by decide)⟩
theorem tb_f9_4 : dp_fok tb_cl tb_N "ProgramSlices$Slice" tb_W 32 (9, 3, 0) := ⟨"ProgramSlices$Slice", tb_T9, 4, tb_t9, rfl, by decide, tb_u9, tb_y9, tb_n9, Or.inl tb_w616, fun _ => ⟨rfl, rfl⟩, fun h => absurd h (by decide), fun h => absurd h (by decide)⟩
theorem tb_f9_ok : ∀ e ∈ tb_f9, dp_fok tb_cl tb_N "ProgramSlices$Slice" tb_W e.1 e.2 := List.forall_mem_cons.mpr ⟨tb_f9_0, List.forall_mem_cons.mpr ⟨tb_f9_1, List.forall_mem_cons.mpr ⟨tb_f9_2, List.forall_mem_cons.mpr ⟨tb_f9_3, List.forall_mem_cons.mpr ⟨tb_f9_4, fun _ h => absurd h List.not_mem_nil⟩⟩⟩⟩⟩
def tb_c9 : List (Nat × Int32) := []
theorem tb_c9_ok : ∀ e ∈ tb_c9, Jvm.Cond.constant "ProgramSlices$Slice" e.1 e.2 ∈ tb_W := fun _ h => absurd h List.not_mem_nil
def tb_l9 : List (Nat × Int64) := []
theorem tb_l9_ok : ∀ e ∈ tb_l9, Jvm.Cond.constantLong "ProgramSlices$Slice" e.1 e.2 ∈ tb_W := fun _ h => absurd h List.not_mem_nil
def tb_s9 : List (Nat × Nat × Nat × Nat) := [(19, 24, 2, 0), (36, 206, 1, 0), (72, 67, 2, 0), (62, 50, 2, 0)]
theorem tb_s9_0 (cc : ByteArray) : sm_Cal tb_cl tb_N cc "ProgramSlices$Slice" tb_W (.invokestatic 19) (tb_ys 24) (tb_ws 24) 2 (dp_rcO 0) := sm_cal_S (tb_GS tb_w617 tb_w291 tb_w292 tb_w293) ⟨by decide, by decide, by decide +kernel⟩ (by decide)
theorem tb_s9_1 (cc : ByteArray) : sm_Cal tb_cl tb_N cc "ProgramSlices$Slice" tb_W (.invokestatic 36) (tb_ys 206) (tb_ws 206) 1 (dp_rcO 0) := sm_cal_S (tb_GS tb_w623 tb_w608 tb_w609 tb_w610) ⟨by decide, by decide, by decide +kernel⟩ (by decide)
theorem tb_s9_2 (cc : ByteArray) : sm_Cal tb_cl tb_N cc "ProgramSlices$Slice" tb_W (.invokestatic 72) (tb_ys 67) (tb_ws 67) 2 (dp_rcO 0) := sm_cal_SN (host := "ProgramSlices") (tb_G tb_w153) tb_w152 tb_w89 (tb_inn (i := 726) (by decide +kernel) rfl) ⟨by decide, by decide, by decide +kernel⟩ (by decide)
theorem tb_s9_3 (cc : ByteArray) : sm_Cal tb_cl tb_N cc "ProgramSlices$Slice" tb_W (.invokestatic 62) (tb_ys 50) (tb_ws 50) 2 (dp_rcO 0) := sm_cal_SN (host := "ProgramSlices") (tb_G tb_w311) tb_w312 tb_w89 (tb_inn (i := 727) (by decide +kernel) rfl) ⟨by decide, by decide, by decide +kernel⟩ (by decide)
theorem tb_s9_ok : ∀ e ∈ tb_s9, ∀ cc, sm_Cal tb_cl tb_N cc "ProgramSlices$Slice" tb_W (.invokestatic e.1) (tb_ys e.2.1) (tb_ws e.2.1) e.2.2.1 (dp_rcO e.2.2.2) := List.forall_mem_cons.mpr ⟨tb_s9_0, List.forall_mem_cons.mpr ⟨tb_s9_1, List.forall_mem_cons.mpr ⟨tb_s9_2, List.forall_mem_cons.mpr ⟨tb_s9_3, fun _ h => absurd h List.not_mem_nil⟩⟩⟩⟩
def tb_v9 : List (Nat × Nat × Nat × Nat) := [(25, 99, 2, 10), (76, 79, 2, 5), (47, 33, 2, 2), (51, 34, 2, 2), (54, 104, 4, 10), (58, 105, 4, 10), (66, 78, 3, 5)]
theorem tb_v9_0 (cc : ByteArray) : sm_Cal tb_cl tb_N cc "ProgramSlices$Slice" tb_W (.invokevirtual 25) (tb_ys 99) (tb_ws 99) 2 (dp_rcO 10) := sm_cal_V (ci := 9) (N0 := 4) (T0 := tb_T9) rfl (tb_GV tb_w618 tb_w619 tb_w620 tb_w33 tb_w621) ⟨by decide, by decide, by decide +kernel⟩ (by decide)
theorem tb_v9_1 (cc : ByteArray) : sm_Cal tb_cl tb_N cc "ProgramSlices$Slice" tb_W (.invokevirtual 76) (tb_ys 79) (tb_ws 79) 2 (dp_rcO 5) := sm_cal_V (ci := 4) (N0 := 5) (T0 := tb_T4) rfl (tb_GV tb_w622 tb_w590 tb_w591 tb_w17 tb_w592) ⟨by decide, by decide, by decide +kernel⟩ (by decide)
theorem tb_v9_2 (cc : ByteArray) : sm_Cal tb_cl tb_N cc "ProgramSlices$Slice" tb_W (.invokevirtual 47) (tb_ys 33) (tb_ws 33) 2 (dp_rcO 2) := sm_cal_V (ci := 1) (N0 := 14) (T0 := tb_T1) rfl (tb_GV tb_w624 tb_w108 tb_w109 tb_w10 tb_w110) ⟨by decide, by decide, by decide +kernel⟩ (by decide)
theorem tb_v9_3 (cc : ByteArray) : sm_Cal tb_cl tb_N cc "ProgramSlices$Slice" tb_W (.invokevirtual 51) (tb_ys 34) (tb_ws 34) 2 (dp_rcO 2) := sm_cal_V (ci := 1) (N0 := 14) (T0 := tb_T1) rfl (tb_GV tb_w625 tb_w112 tb_w113 tb_w10 tb_w114) ⟨by decide, by decide, by decide +kernel⟩ (by decide)
theorem tb_v9_4 (cc : ByteArray) : sm_Cal tb_cl tb_N cc "ProgramSlices$Slice" tb_W (.invokevirtual 54) (tb_ys 104) (tb_ws 104) 4 (dp_rcO 10) := sm_cal_V (ci := 9) (N0 := 4) (T0 := tb_T9) rfl (tb_GV tb_w626 tb_w627 tb_w628 tb_w33 tb_w629) ⟨by decide, by decide, by decide +kernel⟩ (by decide)
theorem tb_v9_5 (cc : ByteArray) : sm_Cal tb_cl tb_N cc "ProgramSlices$Slice" tb_W (.invokevirtual 58) (tb_ys 105) (tb_ws 105) 4 (dp_rcO 10) := sm_cal_V (ci := 9) (N0 := 4) (T0 := tb_T9) rfl (tb_GV tb_w630 tb_w631 tb_w632 tb_w33 tb_w633) ⟨by decide, by decide, by decide +kernel⟩ (by decide)
theorem tb_v9_6 (cc : ByteArray) : sm_Cal tb_cl tb_N cc "ProgramSlices$Slice" tb_W (.invokevirtual 66) (tb_ys 78) (tb_ws 78) 3 (dp_rcO 5) := sm_cal_V (ci := 4) (N0 := 5) (T0 := tb_T4) rfl (tb_GV tb_w634 tb_w120 tb_w121 tb_w17 tb_w122) ⟨by decide, by decide, by decide +kernel⟩ (by decide)
theorem tb_v9_ok : ∀ e ∈ tb_v9, ∀ cc, sm_Cal tb_cl tb_N cc "ProgramSlices$Slice" tb_W (.invokevirtual e.1) (tb_ys e.2.1) (tb_ws e.2.1) e.2.2.1 (dp_rcO e.2.2.2) := List.forall_mem_cons.mpr ⟨tb_v9_0, List.forall_mem_cons.mpr ⟨tb_v9_1, List.forall_mem_cons.mpr ⟨tb_v9_2, List.forall_mem_cons.mpr ⟨tb_v9_3, List.forall_mem_cons.mpr ⟨tb_v9_4, List.forall_mem_cons.mpr ⟨tb_v9_5, List.forall_mem_cons.mpr ⟨tb_v9_6, fun _ h => absurd h List.not_mem_nil⟩⟩⟩⟩⟩⟩⟩
def tb_i9 : List (Nat × Nat × Nat × Nat) := []
theorem tb_i9_ok : ∀ e ∈ tb_i9, ∀ cc, sm_Cal tb_cl tb_N cc "ProgramSlices$Slice" tb_W (.invokespecial e.1) (tb_ys e.2.1) (tb_ws e.2.1) e.2.2.1 (dp_rcO e.2.2.2) := fun _ h => absurd h List.not_mem_nil
def tb_e9 : List (Nat × Nat × List (Option (Option Nat))) := []
theorem tb_e9_ok : ∀ e ∈ tb_e9, dp_nok tb_cl "ProgramSlices$Slice" tb_W e.1 e.2 := fun _ h => absurd h List.not_mem_nil
def tb_K9 : dp_K := (dp_lk tb_f9, dp_lk tb_c9, dp_lk tb_l9, fun i => match i % 3 with
  | 0 => dp_lk tb_s9 (i / 3)
  | 1 => dp_lk tb_v9 (i / 3)
  | _ => dp_lk tb_i9 (i / 3), dp_lk tb_e9, 3)
theorem tb_K9_ok : dp_Kok tb_cl tb_N "ProgramSlices$Slice" tb_W tb_ys tb_ws tb_K9 := by
  refine ⟨fun i F h => tb_f9_ok _ (dp_lk_mem h), fun i v h => tb_c9_ok _ (dp_lk_mem h), fun i v h => tb_l9_ok _ (dp_lk_mem h), fun i C h cc => ?_, fun i C h cc => ?_, fun i C h cc => ?_, fun i C h => tb_e9_ok _ (dp_lk_mem h), ⟨tb_w635, tb_w206, tb_w207⟩, tb_w208, tb_w209, tb_w210⟩
  · have h : dp_lk tb_s9 i = some C := by
      have e1 : 3 * i % 3 = 0 := by omega
      have e2 : 3 * i / 3 = i := by omega
      simpa [tb_K9, e1, e2] using h
    exact tb_s9_ok _ (dp_lk_mem h) cc
  · have h : dp_lk tb_v9 i = some C := by
      have e1 : (3 * i + 1) % 3 = 1 := by omega
      have e2 : (3 * i + 1) / 3 = i := by omega
      simpa [tb_K9, e1, e2] using h
    exact tb_v9_ok _ (dp_lk_mem h) cc
  · have h : dp_lk tb_i9 i = some C := by
      have e1 : (3 * i + 2) % 3 = 2 := by omega
      have e2 : (3 * i + 2) / 3 = i := by omega
      simpa [tb_K9, e1, e2] using h
    exact tb_i9_ok _ (dp_lk_mem h) cc
def tb_f11 : List (Nat × Nat × Nat × Nat) := [(104, 10, 0, 0), (7, 10, 1, 2), (13, 10, 2, 2), (16, 10, 3, 2), (19, 10, 4, 2), (100, 10, 5, 1), (117, 10, 6, 0), (22, 10, 7, 2), (25, 10, 8, 2), (28, 10, 9, 2), (31, 10, 10, 2), (34, 10, 11, 2), (37, 10, 12, 2), (40, 10, 13, 2), (43, 10, 14, 2), (46, 10, 15, 2), (50, 10, 16, 2), (53, 10, 17, 2), (56, 10, 18, 2), (59, 10, 19, 2), (111, 10, 20, 0), (217, 10, 21, 0), (62, 10, 22, 2), (65, 10, 23, 2), (114, 10, 24, 1), (227, 10, 25, 0), (230, 10, 26, 0), (68, 10, 27, 2), (71, 10, 28, 2), (74, 10, 29, 2), (233, 10, 30, 0), (77, 10, 31, 2), (80, 10, 32, 2), (83, 10, 33, 2), (86, 10, 34, 0), (90, 10, 35, 2), (94, 10, 36, 2), (97, 10, 37, 2)]
theorem tb_f11_0 : dp_fok tb_cl tb_N "ProgramSlicesModel" tb_W 104 (10, 0, 0) := ⟨"ProgramSlicesModel", tb_T10, 38, tb_t10, rfl, by decide, tb_u10, tb_y10, tb_n10, Or.inl tb_w636, fun _ => ⟨rfl, rfl⟩, fun h => absurd h (by decide), fun h => absurd h (by decide)⟩
theorem tb_f11_1 : dp_fok tb_cl tb_N "ProgramSlicesModel" tb_W 7 (10, 1, 2) := ⟨"ProgramSlicesModel", tb_T10, 38, tb_t10, rfl, by decide, tb_u10, tb_y10, tb_n10, Or.inl tb_w637, fun h => absurd h (by decide), fun h => absurd h (by decide), fun _ => ⟨rfl, rfl, tb_w637, fun _ => ⟨rfl, rfl⟩⟩⟩
theorem tb_f11_2 : dp_fok tb_cl tb_N "ProgramSlicesModel" tb_W 13 (10, 2, 2) := ⟨"ProgramSlicesModel", tb_T10, 38, tb_t10, rfl, by decide, tb_u10, tb_y10, tb_n10, Or.inl tb_w638, fun h => absurd h (by decide), fun h => absurd h (by decide), fun _ => ⟨rfl, rfl, tb_w638, fun _ => ⟨rfl, rfl⟩⟩⟩
theorem tb_f11_3 : dp_fok tb_cl tb_N "ProgramSlicesModel" tb_W 16 (10, 3, 2) := ⟨"ProgramSlicesModel", tb_T10, 38, tb_t10, rfl, by decide, tb_u10, tb_y10, tb_n10, Or.inl tb_w639, fun h => absurd h (by decide), fun h => absurd h (by decide), fun _ => ⟨rfl, rfl, tb_w639, fun _ => ⟨rfl, rfl⟩⟩⟩
theorem tb_f11_4 : dp_fok tb_cl tb_N "ProgramSlicesModel" tb_W 19 (10, 4, 2) := ⟨"ProgramSlicesModel", tb_T10, 38, tb_t10, rfl, by decide, tb_u10, tb_y10, tb_n10, Or.inl tb_w640, fun h => absurd h (by decide), fun h => absurd h (by decide), fun _ => ⟨rfl, rfl, tb_w640, fun _ => ⟨rfl, rfl⟩⟩⟩
theorem tb_f11_5 : dp_fok tb_cl tb_N "ProgramSlicesModel" tb_W 100 (10, 5, 1) := ⟨"ProgramSlicesModel", tb_T10, 38, tb_t10, rfl, by decide, tb_u10, tb_y10, tb_n10, Or.inl tb_w641, fun h => absurd h (by decide), fun _ => ⟨rfl, rfl⟩, fun h => absurd h (by decide)⟩
theorem tb_f11_6 : dp_fok tb_cl tb_N "ProgramSlicesModel" tb_W 117 (10, 6, 0) := ⟨"ProgramSlicesModel", tb_T10, 38, tb_t10, rfl, by decide, tb_u10, tb_y10, tb_n10, Or.inl tb_w642, fun _ => ⟨rfl, rfl⟩, fun h => absurd h (by decide), fun h => absurd h (by decide)⟩
theorem tb_f11_7 : dp_fok tb_cl tb_N "ProgramSlicesModel" tb_W 22 (10, 7, 2) := ⟨"ProgramSlicesModel", tb_T10, 38, tb_t10, rfl, by decide, tb_u10, tb_y10, tb_n10, Or.inl tb_w643, fun h => absurd h (by decide), fun h => absurd h (by decide), fun _ => ⟨rfl, rfl, tb_w643, fun _ => ⟨rfl, rfl⟩⟩⟩
theorem tb_f11_8 : dp_fok tb_cl tb_N "ProgramSlicesModel" tb_W 25 (10, 8, 2) := ⟨"ProgramSlicesModel", tb_T10, 38, tb_t10, rfl, by decide, tb_u10, tb_y10, tb_n10, Or.inl tb_w644, fun h => absurd h (by decide), fun h => absurd h (by decide), fun _ => ⟨rfl, rfl, tb_w644, fun _ => ⟨rfl, rfl⟩⟩⟩
theorem tb_f11_9 : dp_fok tb_cl tb_N "ProgramSlicesModel" tb_W 28 (10, 9, 2) := ⟨"ProgramSlicesModel", tb_T10, 38, tb_t10, rfl, by decide, tb_u10, tb_y10, tb_n10, Or.inl tb_w645, fun h => absurd h (by decide), fun h => absurd h (by decide), fun _ => ⟨rfl, rfl, tb_w645, fun _ => ⟨rfl, rfl⟩⟩⟩
theorem tb_f11_10 : dp_fok tb_cl tb_N "ProgramSlicesModel" tb_W 31 (10, 10, 2) := ⟨"ProgramSlicesModel", tb_T10, 38, tb_t10, rfl, by decide, tb_u10, tb_y10, tb_n10, Or.inl tb_w646, fun h => absurd h (by decide), fun h => absurd h (by decide), fun _ => ⟨rfl, rfl, tb_w646, fun _ => ⟨rfl, rfl⟩⟩⟩
theorem tb_f11_11 : dp_fok tb_cl tb_N "ProgramSlicesModel" tb_W 34 (10, 11, 2) := ⟨"ProgramSlicesModel", tb_T10, 38, tb_t10, rfl, by decide, tb_u10, tb_y10, tb_n10, Or.inl tb_w647, fun h => absurd h (by decide), fun h => absurd h (by decide), fun _ => ⟨rfl, rfl, tb_w647, fun _ => ⟨rfl, rfl⟩⟩⟩
theorem tb_f11_12 : dp_fok tb_cl tb_N "ProgramSlicesModel" tb_W 37 (10, 12, 2) := ⟨"ProgramSlicesModel", tb_T10, 38, tb_t10, rfl, by decide, tb_u10, tb_y10, tb_n10, Or.inl tb_w648, fun h => absurd h (by decide), fun h => absurd h (by decide), fun _ => ⟨rfl, rfl, tb_w648, fun _ => ⟨rfl, rfl⟩⟩⟩
theorem tb_f11_13 : dp_fok tb_cl tb_N "ProgramSlicesModel" tb_W 40 (10, 13, 2) := ⟨"ProgramSlicesModel", tb_T10, 38, tb_t10, rfl, by decide, tb_u10, tb_y10, tb_n10, Or.inl tb_w649, fun h => absurd h (by decide), fun h => absurd h (by decide), fun _ => ⟨rfl, rfl, tb_w649, fun _ => ⟨rfl, rfl⟩⟩⟩
theorem tb_f11_14 : dp_fok tb_cl tb_N "ProgramSlicesModel" tb_W 43 (10, 14, 2) := ⟨"ProgramSlicesModel", tb_T10, 38, tb_t10, rfl, by decide, tb_u10, tb_y10, tb_n10, Or.inl tb_w650, fun h => absurd h (by decide), fun h => absurd h (by decide), fun _ => ⟨rfl, rfl, tb_w650, fun _ => ⟨rfl, rfl⟩⟩⟩
theorem tb_f11_15 : dp_fok tb_cl tb_N "ProgramSlicesModel" tb_W 46 (10, 15, 2) := ⟨"ProgramSlicesModel", tb_T10, 38, tb_t10, rfl, by decide, tb_u10, tb_y10, tb_n10, Or.inl tb_w651, fun h => absurd h (by decide), fun h => absurd h (by decide), fun _ => ⟨rfl, rfl, tb_w651, fun _ => ⟨rfl, rfl⟩⟩⟩
theorem tb_f11_16 : dp_fok tb_cl tb_N "ProgramSlicesModel" tb_W 50 (10, 16, 2) := ⟨"ProgramSlicesModel", tb_T10, 38, tb_t10, rfl, by decide, tb_u10, tb_y10, tb_n10, Or.inl tb_w652, fun h => absurd h (by decide), fun h => absurd h (by decide), fun _ => ⟨rfl, rfl, tb_w652, fun _ => ⟨rfl, rfl⟩⟩⟩
theorem tb_f11_17 : dp_fok tb_cl tb_N "ProgramSlicesModel" tb_W 53 (10, 17, 2) := ⟨"ProgramSlicesModel", tb_T10, 38, tb_t10, rfl, by decide, tb_u10, tb_y10, tb_n10, Or.inl tb_w653, fun h => absurd h (by decide), fun h => absurd h (by decide), fun _ => ⟨rfl, rfl, tb_w653, fun _ => ⟨rfl, rfl⟩⟩⟩
theorem tb_f11_18 : dp_fok tb_cl tb_N "ProgramSlicesModel" tb_W 56 (10, 18, 2) := ⟨"ProgramSlicesModel", tb_T10, 38, tb_t10, rfl, by decide, tb_u10, tb_y10, tb_n10, Or.inl tb_w654, fun h => absurd h (by decide), fun h => absurd h (by decide), fun _ => ⟨rfl, rfl, tb_w654, fun _ => ⟨rfl, rfl⟩⟩⟩
theorem tb_f11_19 : dp_fok tb_cl tb_N "ProgramSlicesModel" tb_W 59 (10, 19, 2) := ⟨"ProgramSlicesModel", tb_T10, 38, tb_t10, rfl, by decide, tb_u10, tb_y10, tb_n10, Or.inl tb_w655, fun h => absurd h (by decide), fun h => absurd h (by decide), fun _ => ⟨rfl, rfl, tb_w655, fun _ => ⟨rfl, rfl⟩⟩⟩
theorem tb_f11_20 : dp_fok tb_cl tb_N "ProgramSlicesModel" tb_W 111 (10, 20, 0) := ⟨"ProgramSlicesModel", tb_T10, 38, tb_t10, rfl, by decide, tb_u10, tb_y10, tb_n10, Or.inl tb_w656, fun _ => ⟨rfl, rfl⟩, fun h => absurd h (by decide), fun h => absurd h (by decide)⟩
theorem tb_f11_21 : dp_fok tb_cl tb_N "ProgramSlicesModel" tb_W 217 (10, 21, 0) := ⟨"ProgramSlicesModel", tb_T10, 38, tb_t10, rfl, by decide, tb_u10, tb_y10, tb_n10, Or.inl tb_w657, fun _ => ⟨rfl, rfl⟩, fun h => absurd h (by decide), fun h => absurd h (by decide)⟩
theorem tb_f11_22 : dp_fok tb_cl tb_N "ProgramSlicesModel" tb_W 62 (10, 22, 2) := ⟨"ProgramSlicesModel", tb_T10, 38, tb_t10, rfl, by decide, tb_u10, tb_y10, tb_n10, Or.inl tb_w658, fun h => absurd h (by decide), fun h => absurd h (by decide), fun _ => ⟨rfl, rfl, tb_w658, fun _ => ⟨rfl, rfl⟩⟩⟩
theorem tb_f11_23 : dp_fok tb_cl tb_N "ProgramSlicesModel" tb_W 65 (10, 23, 2) := ⟨"ProgramSlicesModel", tb_T10, 38, tb_t10, rfl, by decide, tb_u10, tb_y10, tb_n10, Or.inl tb_w659, fun h => absurd h (by decide), fun h => absurd h (by decide), fun _ => ⟨rfl, rfl, tb_w659, fun _ => ⟨rfl, rfl⟩⟩⟩
theorem tb_f11_24 : dp_fok tb_cl tb_N "ProgramSlicesModel" tb_W 114 (10, 24, 1) := ⟨"ProgramSlicesModel", tb_T10, 38, tb_t10, rfl, by decide, tb_u10, tb_y10, tb_n10, Or.inl tb_w660, fun h => absurd h (by decide), fun _ => ⟨rfl, rfl⟩, fun h => absurd h (by decide)⟩
theorem tb_f11_25 : dp_fok tb_cl tb_N "ProgramSlicesModel" tb_W 227 (10, 25, 0) := ⟨"ProgramSlicesModel", tb_T10, 38, tb_t10, rfl, by decide, tb_u10, tb_y10, tb_n10, Or.inl tb_w661, fun _ => ⟨rfl, rfl⟩, fun h => absurd h (by decide), fun h => absurd h (by decide)⟩
theorem tb_f11_26 : dp_fok tb_cl tb_N "ProgramSlicesModel" tb_W 230 (10, 26, 0) := ⟨"ProgramSlicesModel", tb_T10, 38, tb_t10, rfl, by decide, tb_u10, tb_y10, tb_n10, Or.inl tb_w662, fun _ => ⟨rfl, rfl⟩, fun h => absurd h (by decide), fun h => absurd h (by decide)⟩
theorem tb_f11_27 : dp_fok tb_cl tb_N "ProgramSlicesModel" tb_W 68 (10, 27, 2) := ⟨"ProgramSlicesModel", tb_T10, 38, tb_t10, rfl, by decide, tb_u10, tb_y10, tb_n10, Or.inl tb_w663, fun h => absurd h (by decide), fun h => absurd h (by decide), fun _ => ⟨rfl, rfl, tb_w663, fun _ => ⟨rfl, rfl⟩⟩⟩
theorem tb_f11_28 : dp_fok tb_cl tb_N "ProgramSlicesModel" tb_W 71 (10, 28, 2) := ⟨"ProgramSlicesModel", tb_T10, 38, tb_t10, rfl, by decide, tb_u10, tb_y10, tb_n10, Or.inl tb_w664, fun h => absurd h (by decide), fun h => absurd h (by decide), fun _ => ⟨rfl, rfl, tb_w664, fun _ => ⟨rfl, rfl⟩⟩⟩
theorem tb_f11_29 : dp_fok tb_cl tb_N "ProgramSlicesModel" tb_W 74 (10, 29, 2) := ⟨"ProgramSlicesModel", tb_T10, 38, tb_t10, rfl, by decide, tb_u10, tb_y10, tb_n10, Or.inl tb_w665, fun h => absurd h (by decide), fun h => absurd h (by decide), fun _ => ⟨rfl, rfl, tb_w665, fun _ => ⟨rfl, rfl⟩⟩⟩
theorem tb_f11_30 : dp_fok tb_cl tb_N "ProgramSlicesModel" tb_W 233 (10, 30, 0) := ⟨"ProgramSlicesModel", tb_T10, 38, tb_t10, rfl, by decide, tb_u10, tb_y10, tb_n10, Or.inl tb_w666, fun _ => ⟨rfl, rfl⟩, fun h => absurd h (by decide), fun h => absurd h (by decide)⟩
theorem tb_f11_31 : dp_fok tb_cl tb_N "ProgramSlicesModel" tb_W 77 (10, 31, 2) := ⟨"ProgramSlicesModel", tb_T10, 38, tb_t10, rfl, by decide, tb_u10, tb_y10, tb_n10, Or.inl tb_w667, fun h => absurd h (by decide), fun h => absurd h (by decide), fun _ => ⟨rfl, rfl, tb_w667, fun _ => ⟨rfl, rfl⟩⟩⟩
theorem tb_f11_32 : dp_fok tb_cl tb_N "ProgramSlicesModel" tb_W 80 (10, 32, 2) := ⟨"ProgramSlicesModel", tb_T10, 38, tb_t10, rfl, by decide, tb_u10, tb_y10, tb_n10, Or.inl tb_w668, fun h => absurd h (by decide), fun h => absurd h (by decide), fun _ => ⟨rfl, rfl, tb_w668, fun _ => ⟨rfl, rfl⟩⟩⟩
theorem tb_f11_33 : dp_fok tb_cl tb_N "ProgramSlicesModel" tb_W 83 (10, 33, 2) := ⟨"ProgramSlicesModel", tb_T10, 38, tb_t10, rfl, by decide, tb_u10, tb_y10, tb_n10, Or.inl tb_w669, fun h => absurd h (by decide), fun h => absurd h (by decide), fun _ => ⟨rfl, rfl, tb_w669, fun _ => ⟨rfl, rfl⟩⟩⟩
theorem tb_f11_34 : dp_fok tb_cl tb_N "ProgramSlicesModel" tb_W 86 (10, 34, 0) := ⟨"ProgramSlicesModel", tb_T10, 38, tb_t10, rfl, by decide, tb_u10, tb_y10, tb_n10, Or.inl tb_w670, fun _ => ⟨rfl, rfl⟩, fun h => absurd h (by decide), fun h => absurd h (by decide)⟩
theorem tb_f11_35 : dp_fok tb_cl tb_N "ProgramSlicesModel" tb_W 90 (10, 35, 2) := ⟨"ProgramSlicesModel", tb_T10, 38, tb_t10, rfl, by decide, tb_u10, tb_y10, tb_n10, Or.inl tb_w671, fun h => absurd h (by decide), fun h => absurd h (by decide), fun _ => ⟨rfl, rfl, tb_w671, fun _ => ⟨rfl, rfl⟩⟩⟩
theorem tb_f11_36 : dp_fok tb_cl tb_N "ProgramSlicesModel" tb_W 94 (10, 36, 2) := ⟨"ProgramSlicesModel", tb_T10, 38, tb_t10, rfl, by decide, tb_u10, tb_y10, tb_n10, Or.inl tb_w672, fun h => absurd h (by decide), fun h => absurd h (by decide), fun _ => ⟨rfl, rfl, tb_w672, fun _ => ⟨rfl, rfl⟩⟩⟩
theorem tb_f11_37 : dp_fok tb_cl tb_N "ProgramSlicesModel" tb_W 97 (10, 37, 2) := ⟨"ProgramSlicesModel", tb_T10, 38, tb_t10, rfl, by decide, tb_u10, tb_y10, tb_n10, Or.inl tb_w673, fun h => absurd h (by decide), fun h => absurd h (by decide), fun _ => ⟨rfl, rfl, tb_w673, fun _ => ⟨rfl, rfl⟩⟩⟩
theorem tb_f11_ok : ∀ e ∈ tb_f11, dp_fok tb_cl tb_N "ProgramSlicesModel" tb_W e.1 e.2 := List.forall_mem_cons.mpr ⟨tb_f11_0, List.forall_mem_cons.mpr ⟨tb_f11_1, List.forall_mem_cons.mpr ⟨tb_f11_2, List.forall_mem_cons.mpr ⟨tb_f11_3, List.forall_mem_cons.mpr ⟨tb_f11_4, List.forall_mem_cons.mpr ⟨tb_f11_5, List.forall_mem_cons.mpr ⟨tb_f11_6, List.forall_mem_cons.mpr ⟨tb_f11_7, List.forall_mem_cons.mpr ⟨tb_f11_8, List.forall_mem_cons.mpr ⟨tb_f11_9, List.forall_mem_cons.mpr ⟨tb_f11_10, List.forall_mem_cons.mpr ⟨tb_f11_11, List.forall_mem_cons.mpr ⟨tb_f11_12, List.forall_mem_cons.mpr ⟨tb_f11_13, List.forall_mem_cons.mpr ⟨tb_f11_14, List.forall_mem_cons.mpr ⟨tb_f11_15, List.forall_mem_cons.mpr ⟨tb_f11_16, List.forall_mem_cons.mpr ⟨tb_f11_17, List.forall_mem_cons.mpr ⟨tb_f11_18, List.forall_mem_cons.mpr ⟨tb_f11_19, List.forall_mem_cons.mpr ⟨tb_f11_20, List.forall_mem_cons.mpr ⟨tb_f11_21, List.forall_mem_cons.mpr ⟨tb_f11_22, List.forall_mem_cons.mpr ⟨tb_f11_23, List.forall_mem_cons.mpr ⟨tb_f11_24, List.forall_mem_cons.mpr ⟨tb_f11_25, List.forall_mem_cons.mpr ⟨tb_f11_26, List.forall_mem_cons.mpr ⟨tb_f11_27, List.forall_mem_cons.mpr ⟨tb_f11_28, List.forall_mem_cons.mpr ⟨tb_f11_29, List.forall_mem_cons.mpr ⟨tb_f11_30, List.forall_mem_cons.mpr ⟨tb_f11_31, List.forall_mem_cons.mpr ⟨tb_f11_32, List.forall_mem_cons.mpr ⟨tb_f11_33, List.forall_mem_cons.mpr ⟨tb_f11_34, List.forall_mem_cons.mpr ⟨tb_f11_35, List.forall_mem_cons.mpr ⟨tb_f11_36, List.forall_mem_cons.mpr ⟨tb_f11_37, fun _ h => absurd h List.not_mem_nil⟩⟩⟩⟩⟩⟩⟩⟩⟩⟩⟩⟩⟩⟩⟩⟩⟩⟩⟩⟩⟩⟩⟩⟩⟩⟩⟩⟩⟩⟩⟩⟩⟩⟩⟩⟩⟩⟩
def tb_c11 : List (Nat × Int32) := [(236, 1000000)]
theorem tb_c11_ok : ∀ e ∈ tb_c11, Jvm.Cond.constant "ProgramSlicesModel" e.1 e.2 ∈ tb_W := List.forall_mem_cons.mpr ⟨tb_w674, fun _ h => absurd h List.not_mem_nil⟩
def tb_l11 : List (Nat × Int64) := []
theorem tb_l11_ok : ∀ e ∈ tb_l11, Jvm.Cond.constantLong "ProgramSlicesModel" e.1 e.2 ∈ tb_W := fun _ h => absurd h List.not_mem_nil
def tb_s11 : List (Nat × Nat × Nat × Nat) := [(107, 144, 1, 0), (148, 156, 1, 0), (152, 159, 1, 0), (155, 160, 1, 0), (191, 169, 3, 0), (206, 173, 3, 0)]
theorem tb_s11_0 (cc : ByteArray) : sm_Cal tb_cl tb_N cc "ProgramSlicesModel" tb_W (.invokestatic 107) (tb_ys 144) (tb_ws 144) 1 (dp_rcO 0) := sm_cal_S (tb_GS tb_w675 tb_w676 tb_w677 tb_w678) ⟨by decide, by decide, by decide +kernel⟩ (by decide)
theorem tb_s11_1 (cc : ByteArray) : sm_Cal tb_cl tb_N cc "ProgramSlicesModel" tb_W (.invokestatic 148) (tb_ys 156) (tb_ws 156) 1 (dp_rcO 0) := sm_cal_S (tb_GS tb_w715 tb_w716 tb_w677 tb_w717) ⟨by decide, by decide, by decide +kernel⟩ (by decide)
theorem tb_s11_2 (cc : ByteArray) : sm_Cal tb_cl tb_N cc "ProgramSlicesModel" tb_W (.invokestatic 152) (tb_ys 159) (tb_ws 159) 1 (dp_rcO 0) := sm_cal_S (tb_GS tb_w726 tb_w727 tb_w677 tb_w728) ⟨by decide, by decide, by decide +kernel⟩ (by decide)
theorem tb_s11_3 (cc : ByteArray) : sm_Cal tb_cl tb_N cc "ProgramSlicesModel" tb_W (.invokestatic 155) (tb_ys 160) (tb_ws 160) 1 (dp_rcO 0) := sm_cal_S (tb_GS tb_w729 tb_w730 tb_w677 tb_w731) ⟨by decide, by decide, by decide +kernel⟩ (by decide)
theorem tb_s11_4 (cc : ByteArray) : sm_Cal tb_cl tb_N cc "ProgramSlicesModel" tb_W (.invokestatic 191) (tb_ys 169) (tb_ws 169) 3 (dp_rcO 0) := sm_cal_S (tb_GS tb_w764 tb_w765 tb_w677 tb_w766) ⟨by decide, by decide, by decide +kernel⟩ (by decide)
theorem tb_s11_5 (cc : ByteArray) : sm_Cal tb_cl tb_N cc "ProgramSlicesModel" tb_W (.invokestatic 206) (tb_ys 173) (tb_ws 173) 3 (dp_rcO 0) := sm_cal_S (tb_GS tb_w779 tb_w780 tb_w677 tb_w781) ⟨by decide, by decide, by decide +kernel⟩ (by decide)
theorem tb_s11_ok : ∀ e ∈ tb_s11, ∀ cc, sm_Cal tb_cl tb_N cc "ProgramSlicesModel" tb_W (.invokestatic e.1) (tb_ys e.2.1) (tb_ws e.2.1) e.2.2.1 (dp_rcO e.2.2.2) := List.forall_mem_cons.mpr ⟨tb_s11_0, List.forall_mem_cons.mpr ⟨tb_s11_1, List.forall_mem_cons.mpr ⟨tb_s11_2, List.forall_mem_cons.mpr ⟨tb_s11_3, List.forall_mem_cons.mpr ⟨tb_s11_4, List.forall_mem_cons.mpr ⟨tb_s11_5, fun _ h => absurd h List.not_mem_nil⟩⟩⟩⟩⟩⟩
def tb_v11 : List (Nat × Nat × Nat × Nat) := [(120, 147, 1, 11), (124, 148, 2, 11), (127, 149, 1, 11), (137, 150, 3, 11), (133, 151, 3, 11), (130, 152, 1, 11), (188, 153, 3, 11), (174, 154, 2, 11), (161, 155, 2, 11), (177, 157, 3, 11), (180, 158, 3, 11), (158, 161, 3, 11), (164, 162, 4, 11), (144, 163, 3, 11), (140, 164, 3, 11), (168, 165, 4, 11), (183, 166, 3, 11), (171, 167, 3, 11), (185, 168, 3, 11), (195, 170, 2, 11), (198, 171, 2, 11), (202, 172, 4, 11), (210, 174, 4, 11), (214, 178, 2, 11), (220, 179, 2, 11), (224, 181, 1, 11), (237, 185, 1, 11), (246, 186, 2, 11), (249, 187, 3, 11), (240, 188, 2, 11), (243, 189, 2, 11), (253, 190, 4, 11), (257, 191, 3, 11), (260, 197, 2, 11), (263, 200, 3, 11), (266, 201, 4, 11), (269, 202, 1, 11), (272, 199, 1, 11), (275, 204, 2, 11)]
theorem tb_v11_0 (cc : ByteArray) : sm_Cal tb_cl tb_N cc "ProgramSlicesModel" tb_W (.invokevirtual 120) (tb_ys 147) (tb_ws 147) 1 (dp_rcO 11) := sm_cal_V (ci := 10) (N0 := 38) (T0 := tb_T10) rfl (tb_GV tb_w679 tb_w680 tb_w681 tb_w677 tb_w682) ⟨by decide, by decide, by decide +kernel⟩ (by decide)
theorem tb_v11_1 (cc : ByteArray) : sm_Cal tb_cl tb_N cc "ProgramSlicesModel" tb_W (.invokevirtual 124) (tb_ys 148) (tb_ws 148) 2 (dp_rcO 11) := sm_cal_V (ci := 10) (N0 := 38) (T0 := tb_T10) rfl (tb_GV tb_w683 tb_w684 tb_w685 tb_w677 tb_w686) ⟨by decide, by decide, by decide +kernel⟩ (by decide)
theorem tb_v11_2 (cc : ByteArray) : sm_Cal tb_cl tb_N cc "ProgramSlicesModel" tb_W (.invokevirtual 127) (tb_ys 149) (tb_ws 149) 1 (dp_rcO 11) := sm_cal_V (ci := 10) (N0 := 38) (T0 := tb_T10) rfl (tb_GV tb_w687 tb_w688 tb_w689 tb_w677 tb_w690) ⟨by decide, by decide, by decide +kernel⟩ (by decide)
theorem tb_v11_3 (cc : ByteArray) : sm_Cal tb_cl tb_N cc "ProgramSlicesModel" tb_W (.invokevirtual 137) (tb_ys 150) (tb_ws 150) 3 (dp_rcO 11) := sm_cal_V (ci := 10) (N0 := 38) (T0 := tb_T10) rfl (tb_GV tb_w691 tb_w692 tb_w693 tb_w677 tb_w694) ⟨by decide, by decide, by decide +kernel⟩ (by decide)
theorem tb_v11_4 (cc : ByteArray) : sm_Cal tb_cl tb_N cc "ProgramSlicesModel" tb_W (.invokevirtual 133) (tb_ys 151) (tb_ws 151) 3 (dp_rcO 11) := sm_cal_V (ci := 10) (N0 := 38) (T0 := tb_T10) rfl (tb_GV tb_w695 tb_w696 tb_w697 tb_w677 tb_w698) ⟨by decide, by decide, by decide +kernel⟩ (by decide)
theorem tb_v11_5 (cc : ByteArray) : sm_Cal tb_cl tb_N cc "ProgramSlicesModel" tb_W (.invokevirtual 130) (tb_ys 152) (tb_ws 152) 1 (dp_rcO 11) := sm_cal_V (ci := 10) (N0 := 38) (T0 := tb_T10) rfl (tb_GV tb_w699 tb_w700 tb_w701 tb_w677 tb_w702) ⟨by decide, by decide, by decide +kernel⟩ (by decide)
theorem tb_v11_6 (cc : ByteArray) : sm_Cal tb_cl tb_N cc "ProgramSlicesModel" tb_W (.invokevirtual 188) (tb_ys 153) (tb_ws 153) 3 (dp_rcO 11) := sm_cal_V (ci := 10) (N0 := 38) (T0 := tb_T10) rfl (tb_GV tb_w703 tb_w704 tb_w705 tb_w677 tb_w706) ⟨by decide, by decide, by decide +kernel⟩ (by decide)
theorem tb_v11_7 (cc : ByteArray) : sm_Cal tb_cl tb_N cc "ProgramSlicesModel" tb_W (.invokevirtual 174) (tb_ys 154) (tb_ws 154) 2 (dp_rcO 11) := sm_cal_V (ci := 10) (N0 := 38) (T0 := tb_T10) rfl (tb_GV tb_w707 tb_w708 tb_w709 tb_w677 tb_w710) ⟨by decide, by decide, by decide +kernel⟩ (by decide)
theorem tb_v11_8 (cc : ByteArray) : sm_Cal tb_cl tb_N cc "ProgramSlicesModel" tb_W (.invokevirtual 161) (tb_ys 155) (tb_ws 155) 2 (dp_rcO 11) := sm_cal_V (ci := 10) (N0 := 38) (T0 := tb_T10) rfl (tb_GV tb_w711 tb_w712 tb_w713 tb_w677 tb_w714) ⟨by decide, by decide, by decide +kernel⟩ (by decide)
theorem tb_v11_9 (cc : ByteArray) : sm_Cal tb_cl tb_N cc "ProgramSlicesModel" tb_W (.invokevirtual 177) (tb_ys 157) (tb_ws 157) 3 (dp_rcO 11) := sm_cal_V (ci := 10) (N0 := 38) (T0 := tb_T10) rfl (tb_GV tb_w718 tb_w719 tb_w720 tb_w677 tb_w721) ⟨by decide, by decide, by decide +kernel⟩ (by decide)
theorem tb_v11_10 (cc : ByteArray) : sm_Cal tb_cl tb_N cc "ProgramSlicesModel" tb_W (.invokevirtual 180) (tb_ys 158) (tb_ws 158) 3 (dp_rcO 11) := sm_cal_V (ci := 10) (N0 := 38) (T0 := tb_T10) rfl (tb_GV tb_w722 tb_w723 tb_w724 tb_w677 tb_w725) ⟨by decide, by decide, by decide +kernel⟩ (by decide)
theorem tb_v11_11 (cc : ByteArray) : sm_Cal tb_cl tb_N cc "ProgramSlicesModel" tb_W (.invokevirtual 158) (tb_ys 161) (tb_ws 161) 3 (dp_rcO 11) := sm_cal_V (ci := 10) (N0 := 38) (T0 := tb_T10) rfl (tb_GV tb_w732 tb_w733 tb_w734 tb_w677 tb_w735) ⟨by decide, by decide, by decide +kernel⟩ (by decide)
theorem tb_v11_12 (cc : ByteArray) : sm_Cal tb_cl tb_N cc "ProgramSlicesModel" tb_W (.invokevirtual 164) (tb_ys 162) (tb_ws 162) 4 (dp_rcO 11) := sm_cal_V (ci := 10) (N0 := 38) (T0 := tb_T10) rfl (tb_GV tb_w736 tb_w737 tb_w738 tb_w677 tb_w739) ⟨by decide, by decide, by decide +kernel⟩ (by decide)
theorem tb_v11_13 (cc : ByteArray) : sm_Cal tb_cl tb_N cc "ProgramSlicesModel" tb_W (.invokevirtual 144) (tb_ys 163) (tb_ws 163) 3 (dp_rcO 11) := sm_cal_V (ci := 10) (N0 := 38) (T0 := tb_T10) rfl (tb_GV tb_w740 tb_w741 tb_w742 tb_w677 tb_w743) ⟨by decide, by decide, by decide +kernel⟩ (by decide)
theorem tb_v11_14 (cc : ByteArray) : sm_Cal tb_cl tb_N cc "ProgramSlicesModel" tb_W (.invokevirtual 140) (tb_ys 164) (tb_ws 164) 3 (dp_rcO 11) := sm_cal_V (ci := 10) (N0 := 38) (T0 := tb_T10) rfl (tb_GV tb_w744 tb_w745 tb_w746 tb_w677 tb_w747) ⟨by decide, by decide, by decide +kernel⟩ (by decide)
theorem tb_v11_15 (cc : ByteArray) : sm_Cal tb_cl tb_N cc "ProgramSlicesModel" tb_W (.invokevirtual 168) (tb_ys 165) (tb_ws 165) 4 (dp_rcO 11) := sm_cal_V (ci := 10) (N0 := 38) (T0 := tb_T10) rfl (tb_GV tb_w748 tb_w749 tb_w750 tb_w677 tb_w751) ⟨by decide, by decide, by decide +kernel⟩ (by decide)
theorem tb_v11_16 (cc : ByteArray) : sm_Cal tb_cl tb_N cc "ProgramSlicesModel" tb_W (.invokevirtual 183) (tb_ys 166) (tb_ws 166) 3 (dp_rcO 11) := sm_cal_V (ci := 10) (N0 := 38) (T0 := tb_T10) rfl (tb_GV tb_w752 tb_w753 tb_w754 tb_w677 tb_w755) ⟨by decide, by decide, by decide +kernel⟩ (by decide)
theorem tb_v11_17 (cc : ByteArray) : sm_Cal tb_cl tb_N cc "ProgramSlicesModel" tb_W (.invokevirtual 171) (tb_ys 167) (tb_ws 167) 3 (dp_rcO 11) := sm_cal_V (ci := 10) (N0 := 38) (T0 := tb_T10) rfl (tb_GV tb_w756 tb_w757 tb_w758 tb_w677 tb_w759) ⟨by decide, by decide, by decide +kernel⟩ (by decide)
theorem tb_v11_18 (cc : ByteArray) : sm_Cal tb_cl tb_N cc "ProgramSlicesModel" tb_W (.invokevirtual 185) (tb_ys 168) (tb_ws 168) 3 (dp_rcO 11) := sm_cal_V (ci := 10) (N0 := 38) (T0 := tb_T10) rfl (tb_GV tb_w760 tb_w761 tb_w762 tb_w677 tb_w763) ⟨by decide, by decide, by decide +kernel⟩ (by decide)
theorem tb_v11_19 (cc : ByteArray) : sm_Cal tb_cl tb_N cc "ProgramSlicesModel" tb_W (.invokevirtual 195) (tb_ys 170) (tb_ws 170) 2 (dp_rcO 11) := sm_cal_V (ci := 10) (N0 := 38) (T0 := tb_T10) rfl (tb_GV tb_w767 tb_w768 tb_w769 tb_w677 tb_w770) ⟨by decide, by decide, by decide +kernel⟩ (by decide)
theorem tb_v11_20 (cc : ByteArray) : sm_Cal tb_cl tb_N cc "ProgramSlicesModel" tb_W (.invokevirtual 198) (tb_ys 171) (tb_ws 171) 2 (dp_rcO 11) := sm_cal_V (ci := 10) (N0 := 38) (T0 := tb_T10) rfl (tb_GV tb_w771 tb_w772 tb_w773 tb_w677 tb_w774) ⟨by decide, by decide, by decide +kernel⟩ (by decide)
theorem tb_v11_21 (cc : ByteArray) : sm_Cal tb_cl tb_N cc "ProgramSlicesModel" tb_W (.invokevirtual 202) (tb_ys 172) (tb_ws 172) 4 (dp_rcO 11) := sm_cal_V (ci := 10) (N0 := 38) (T0 := tb_T10) rfl (tb_GV tb_w775 tb_w776 tb_w777 tb_w677 tb_w778) ⟨by decide, by decide, by decide +kernel⟩ (by decide)
theorem tb_v11_22 (cc : ByteArray) : sm_Cal tb_cl tb_N cc "ProgramSlicesModel" tb_W (.invokevirtual 210) (tb_ys 174) (tb_ws 174) 4 (dp_rcO 11) := sm_cal_V (ci := 10) (N0 := 38) (T0 := tb_T10) rfl (tb_GV tb_w782 tb_w783 tb_w784 tb_w677 tb_w785) ⟨by decide, by decide, by decide +kernel⟩ (by decide)
theorem tb_v11_23 (cc : ByteArray) : sm_Cal tb_cl tb_N cc "ProgramSlicesModel" tb_W (.invokevirtual 214) (tb_ys 178) (tb_ws 178) 2 (dp_rcO 11) := sm_cal_V (ci := 10) (N0 := 38) (T0 := tb_T10) rfl (tb_GV tb_w786 tb_w787 tb_w788 tb_w677 tb_w789) ⟨by decide, by decide, by decide +kernel⟩ (by decide)
theorem tb_v11_24 (cc : ByteArray) : sm_Cal tb_cl tb_N cc "ProgramSlicesModel" tb_W (.invokevirtual 220) (tb_ys 179) (tb_ws 179) 2 (dp_rcO 11) := sm_cal_V (ci := 10) (N0 := 38) (T0 := tb_T10) rfl (tb_GV tb_w790 tb_w791 tb_w792 tb_w677 tb_w793) ⟨by decide, by decide, by decide +kernel⟩ (by decide)
theorem tb_v11_25 (cc : ByteArray) : sm_Cal tb_cl tb_N cc "ProgramSlicesModel" tb_W (.invokevirtual 224) (tb_ys 181) (tb_ws 181) 1 (dp_rcO 11) := sm_cal_V (ci := 10) (N0 := 38) (T0 := tb_T10) rfl (tb_GV tb_w794 tb_w795 tb_w796 tb_w677 tb_w797) ⟨by decide, by decide, by decide +kernel⟩ (by decide)
theorem tb_v11_26 (cc : ByteArray) : sm_Cal tb_cl tb_N cc "ProgramSlicesModel" tb_W (.invokevirtual 237) (tb_ys 185) (tb_ws 185) 1 (dp_rcO 11) := sm_cal_V (ci := 10) (N0 := 38) (T0 := tb_T10) rfl (tb_GV tb_w798 tb_w799 tb_w800 tb_w677 tb_w801) ⟨by decide, by decide, by decide +kernel⟩ (by decide)
theorem tb_v11_27 (cc : ByteArray) : sm_Cal tb_cl tb_N cc "ProgramSlicesModel" tb_W (.invokevirtual 246) (tb_ys 186) (tb_ws 186) 2 (dp_rcO 11) := sm_cal_V (ci := 10) (N0 := 38) (T0 := tb_T10) rfl (tb_GV tb_w802 tb_w803 tb_w804 tb_w677 tb_w805) ⟨by decide, by decide, by decide +kernel⟩ (by decide)
theorem tb_v11_28 (cc : ByteArray) : sm_Cal tb_cl tb_N cc "ProgramSlicesModel" tb_W (.invokevirtual 249) (tb_ys 187) (tb_ws 187) 3 (dp_rcO 11) := sm_cal_V (ci := 10) (N0 := 38) (T0 := tb_T10) rfl (tb_GV tb_w806 tb_w807 tb_w808 tb_w677 tb_w809) ⟨by decide, by decide, by decide +kernel⟩ (by decide)
theorem tb_v11_29 (cc : ByteArray) : sm_Cal tb_cl tb_N cc "ProgramSlicesModel" tb_W (.invokevirtual 240) (tb_ys 188) (tb_ws 188) 2 (dp_rcO 11) := sm_cal_V (ci := 10) (N0 := 38) (T0 := tb_T10) rfl (tb_GV tb_w810 tb_w811 tb_w812 tb_w677 tb_w813) ⟨by decide, by decide, by decide +kernel⟩ (by decide)
theorem tb_v11_30 (cc : ByteArray) : sm_Cal tb_cl tb_N cc "ProgramSlicesModel" tb_W (.invokevirtual 243) (tb_ys 189) (tb_ws 189) 2 (dp_rcO 11) := sm_cal_V (ci := 10) (N0 := 38) (T0 := tb_T10) rfl (tb_GV tb_w814 tb_w815 tb_w816 tb_w677 tb_w817) ⟨by decide, by decide, by decide +kernel⟩ (by decide)
theorem tb_v11_31 (cc : ByteArray) : sm_Cal tb_cl tb_N cc "ProgramSlicesModel" tb_W (.invokevirtual 253) (tb_ys 190) (tb_ws 190) 4 (dp_rcO 11) := sm_cal_V (ci := 10) (N0 := 38) (T0 := tb_T10) rfl (tb_GV tb_w818 tb_w819 tb_w820 tb_w677 tb_w821) ⟨by decide, by decide, by decide +kernel⟩ (by decide)
theorem tb_v11_32 (cc : ByteArray) : sm_Cal tb_cl tb_N cc "ProgramSlicesModel" tb_W (.invokevirtual 257) (tb_ys 191) (tb_ws 191) 3 (dp_rcO 11) := sm_cal_V (ci := 10) (N0 := 38) (T0 := tb_T10) rfl (tb_GV tb_w822 tb_w823 tb_w824 tb_w677 tb_w825) ⟨by decide, by decide, by decide +kernel⟩ (by decide)
theorem tb_v11_33 (cc : ByteArray) : sm_Cal tb_cl tb_N cc "ProgramSlicesModel" tb_W (.invokevirtual 260) (tb_ys 197) (tb_ws 197) 2 (dp_rcO 11) := sm_cal_V (ci := 10) (N0 := 38) (T0 := tb_T10) rfl (tb_GV tb_w826 tb_w827 tb_w828 tb_w677 tb_w829) ⟨by decide, by decide, by decide +kernel⟩ (by decide)
theorem tb_v11_34 (cc : ByteArray) : sm_Cal tb_cl tb_N cc "ProgramSlicesModel" tb_W (.invokevirtual 263) (tb_ys 200) (tb_ws 200) 3 (dp_rcO 11) := sm_cal_V (ci := 10) (N0 := 38) (T0 := tb_T10) rfl (tb_GV tb_w830 tb_w831 tb_w832 tb_w677 tb_w833) ⟨by decide, by decide, by decide +kernel⟩ (by decide)
theorem tb_v11_35 (cc : ByteArray) : sm_Cal tb_cl tb_N cc "ProgramSlicesModel" tb_W (.invokevirtual 266) (tb_ys 201) (tb_ws 201) 4 (dp_rcO 11) := sm_cal_V (ci := 10) (N0 := 38) (T0 := tb_T10) rfl (tb_GV tb_w834 tb_w835 tb_w836 tb_w677 tb_w837) ⟨by decide, by decide, by decide +kernel⟩ (by decide)
theorem tb_v11_36 (cc : ByteArray) : sm_Cal tb_cl tb_N cc "ProgramSlicesModel" tb_W (.invokevirtual 269) (tb_ys 202) (tb_ws 202) 1 (dp_rcO 11) := sm_cal_V (ci := 10) (N0 := 38) (T0 := tb_T10) rfl (tb_GV tb_w838 tb_w839 tb_w840 tb_w677 tb_w841) ⟨by decide, by decide, by decide +kernel⟩ (by decide)
theorem tb_v11_37 (cc : ByteArray) : sm_Cal tb_cl tb_N cc "ProgramSlicesModel" tb_W (.invokevirtual 272) (tb_ys 199) (tb_ws 199) 1 (dp_rcO 11) := sm_cal_V (ci := 10) (N0 := 38) (T0 := tb_T10) rfl (tb_GV tb_w842 tb_w843 tb_w844 tb_w677 tb_w845) ⟨by decide, by decide, by decide +kernel⟩ (by decide)
theorem tb_v11_38 (cc : ByteArray) : sm_Cal tb_cl tb_N cc "ProgramSlicesModel" tb_W (.invokevirtual 275) (tb_ys 204) (tb_ws 204) 2 (dp_rcO 11) := sm_cal_V (ci := 10) (N0 := 38) (T0 := tb_T10) rfl (tb_GV tb_w846 tb_w847 tb_w848 tb_w677 tb_w849) ⟨by decide, by decide, by decide +kernel⟩ (by decide)
theorem tb_v11_ok : ∀ e ∈ tb_v11, ∀ cc, sm_Cal tb_cl tb_N cc "ProgramSlicesModel" tb_W (.invokevirtual e.1) (tb_ys e.2.1) (tb_ws e.2.1) e.2.2.1 (dp_rcO e.2.2.2) := List.forall_mem_cons.mpr ⟨tb_v11_0, List.forall_mem_cons.mpr ⟨tb_v11_1, List.forall_mem_cons.mpr ⟨tb_v11_2, List.forall_mem_cons.mpr ⟨tb_v11_3, List.forall_mem_cons.mpr ⟨tb_v11_4, List.forall_mem_cons.mpr ⟨tb_v11_5, List.forall_mem_cons.mpr ⟨tb_v11_6, List.forall_mem_cons.mpr ⟨tb_v11_7, List.forall_mem_cons.mpr ⟨tb_v11_8, List.forall_mem_cons.mpr ⟨tb_v11_9, List.forall_mem_cons.mpr ⟨tb_v11_10, List.forall_mem_cons.mpr ⟨tb_v11_11, List.forall_mem_cons.mpr ⟨tb_v11_12, List.forall_mem_cons.mpr ⟨tb_v11_13, List.forall_mem_cons.mpr ⟨tb_v11_14, List.forall_mem_cons.mpr ⟨tb_v11_15, List.forall_mem_cons.mpr ⟨tb_v11_16, List.forall_mem_cons.mpr ⟨tb_v11_17, List.forall_mem_cons.mpr ⟨tb_v11_18, List.forall_mem_cons.mpr ⟨tb_v11_19, List.forall_mem_cons.mpr ⟨tb_v11_20, List.forall_mem_cons.mpr ⟨tb_v11_21, List.forall_mem_cons.mpr ⟨tb_v11_22, List.forall_mem_cons.mpr ⟨tb_v11_23, List.forall_mem_cons.mpr ⟨tb_v11_24, List.forall_mem_cons.mpr ⟨tb_v11_25, List.forall_mem_cons.mpr ⟨tb_v11_26, List.forall_mem_cons.mpr ⟨tb_v11_27, List.forall_mem_cons.mpr ⟨tb_v11_28, List.forall_mem_cons.mpr ⟨tb_v11_29, List.forall_mem_cons.mpr ⟨tb_v11_30, List.forall_mem_cons.mpr ⟨tb_v11_31, List.forall_mem_cons.mpr ⟨tb_v11_32, List.forall_mem_cons.mpr ⟨tb_v11_33, List.forall_mem_cons.mpr ⟨tb_v11_34, List.forall_mem_cons.mpr ⟨tb_v11_35, List.forall_mem_cons.mpr ⟨tb_v11_36, List.forall_mem_cons.mpr ⟨tb_v11_37, List.forall_mem_cons.mpr ⟨tb_v11_38, fun _ h => absurd h List.not_mem_nil⟩⟩⟩⟩⟩⟩⟩⟩⟩⟩⟩⟩⟩⟩⟩⟩⟩⟩⟩⟩⟩⟩⟩⟩⟩⟩⟩⟩⟩⟩⟩⟩⟩⟩⟩⟩⟩⟩⟩
def tb_i11 : List (Nat × Nat × Nat × Nat) := []
theorem tb_i11_ok : ∀ e ∈ tb_i11, ∀ cc, sm_Cal tb_cl tb_N cc "ProgramSlicesModel" tb_W (.invokespecial e.1) (tb_ys e.2.1) (tb_ws e.2.1) e.2.2.1 (dp_rcO e.2.2.2) := fun _ h => absurd h List.not_mem_nil
def tb_e11 : List (Nat × Nat × List (Option (Option Nat))) := []
theorem tb_e11_ok : ∀ e ∈ tb_e11, dp_nok tb_cl "ProgramSlicesModel" tb_W e.1 e.2 := fun _ h => absurd h List.not_mem_nil
def tb_K11 : dp_K := (dp_lk tb_f11, dp_lk tb_c11, dp_lk tb_l11, fun i => match i % 3 with
  | 0 => dp_lk tb_s11 (i / 3)
  | 1 => dp_lk tb_v11 (i / 3)
  | _ => dp_lk tb_i11 (i / 3), dp_lk tb_e11, 1)
theorem tb_K11_ok : dp_Kok tb_cl tb_N "ProgramSlicesModel" tb_W tb_ys tb_ws tb_K11 := by
  refine ⟨fun i F h => tb_f11_ok _ (dp_lk_mem h), fun i v h => tb_c11_ok _ (dp_lk_mem h), fun i v h => tb_l11_ok _ (dp_lk_mem h), fun i C h cc => ?_, fun i C h cc => ?_, fun i C h cc => ?_, fun i C h => tb_e11_ok _ (dp_lk_mem h), ⟨tb_w850, tb_w206, tb_w207⟩, tb_w208, tb_w209, tb_w210⟩
  · have h : dp_lk tb_s11 i = some C := by
      have e1 : 3 * i % 3 = 0 := by omega
      have e2 : 3 * i / 3 = i := by omega
      simpa [tb_K11, e1, e2] using h
    exact tb_s11_ok _ (dp_lk_mem h) cc
  · have h : dp_lk tb_v11 i = some C := by
      have e1 : (3 * i + 1) % 3 = 1 := by omega
      have e2 : (3 * i + 1) / 3 = i := by omega
      simpa [tb_K11, e1, e2] using h
    exact tb_v11_ok _ (dp_lk_mem h) cc
  · have h : dp_lk tb_i11 i = some C := by
      have e1 : (3 * i + 2) % 3 = 2 := by omega
      have e2 : (3 * i + 2) / 3 = i := by omega
      simpa [tb_K11, e1, e2] using h
    exact tb_i11_ok _ (dp_lk_mem h) cc
