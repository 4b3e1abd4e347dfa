theorem td_10_0 : decode prog_1_method_2_code 0 = .ok ((.aload_n 0), 1) := tb_b10_ok (0, (.aload_n 0), 1) (List.mem_of_getElem? (i := 0) rfl)
theorem td_10_1 : decode prog_1_method_2_code 1 = .ok ((.getfield 64), 3) := tb_b10_ok (1, (.getfield 64), 3) (List.mem_of_getElem? (i := 1) rfl)
theorem td_10_4 : decode prog_1_method_2_code 4 = .ok ((.ifCond .ne (28)), 3) := tb_b10_ok (4, (.ifCond .ne (28)), 3) (List.mem_of_getElem? (i := 2) rfl)
theorem td_10_7 : decode prog_1_method_2_code 7 = .ok ((.aload_n 0), 1) := tb_b10_ok (7, (.aload_n 0), 1) (List.mem_of_getElem? (i := 3) rfl)
theorem td_10_8 : decode prog_1_method_2_code 8 = .ok ((.getfield 12), 3) := tb_b10_ok (8, (.getfield 12), 3) (List.mem_of_getElem? (i := 4) rfl)
theorem td_10_11 : decode prog_1_method_2_code 11 = .ok ((.invokevirtual 68), 3) := tb_b10_ok (11, (.invokevirtual 68), 3) (List.mem_of_getElem? (i := 5) rfl)
theorem td_10_14 : decode prog_1_method_2_code 14 = .ok ((.ifCond .eq (18)), 3) := tb_b10_ok (14, (.ifCond .eq (18)), 3) (List.mem_of_getElem? (i := 6) rfl)
theorem td_10_17 : decode prog_1_method_2_code 17 = .ok ((.aload_n 0), 1) := tb_b10_ok (17, (.aload_n 0), 1) (List.mem_of_getElem? (i := 7) rfl)
theorem td_10_18 : decode prog_1_method_2_code 18 = .ok ((.getfield 12), 3) := tb_b10_ok (18, (.getfield 12), 3) (List.mem_of_getElem? (i := 8) rfl)
theorem td_10_21 : decode prog_1_method_2_code 21 = .ok ((.iload_n 1), 1) := tb_b10_ok (21, (.iload_n 1), 1) (List.mem_of_getElem? (i := 9) rfl)
theorem td_10_22 : decode prog_1_method_2_code 22 = .ok ((.iload_n 2), 1) := tb_b10_ok (22, (.iload_n 2), 1) (List.mem_of_getElem? (i := 10) rfl)
theorem td_10_23 : decode prog_1_method_2_code 23 = .ok ((.iload_n 3), 1) := tb_b10_ok (23, (.iload_n 3), 1) (List.mem_of_getElem? (i := 11) rfl)
theorem td_10_24 : decode prog_1_method_2_code 24 = .ok ((.iload 4), 2) := tb_b10_ok (24, (.iload 4), 2) (List.mem_of_getElem? (i := 12) rfl)
theorem td_10_26 : decode prog_1_method_2_code 26 = .ok ((.invokevirtual 72), 3) := tb_b10_ok (26, (.invokevirtual 72), 3) (List.mem_of_getElem? (i := 13) rfl)
theorem td_10_29 : decode prog_1_method_2_code 29 = .ok ((.ifCond .ne (5)), 3) := tb_b10_ok (29, (.ifCond .ne (5)), 3) (List.mem_of_getElem? (i := 14) rfl)
theorem td_10_32 : decode prog_1_method_2_code 32 = .ok ((.iconst (-1)), 1) := tb_b10_ok (32, (.iconst (-1)), 1) (List.mem_of_getElem? (i := 15) rfl)
theorem td_10_33 : decode prog_1_method_2_code 33 = .ok (.ireturn, 1) := tb_b10_ok (33, .ireturn, 1) (List.mem_of_getElem? (i := 16) rfl)
theorem td_10_34 : decode prog_1_method_2_code 34 = .ok ((.aload_n 0), 1) := tb_b10_ok (34, (.aload_n 0), 1) (List.mem_of_getElem? (i := 17) rfl)
theorem td_10_35 : decode prog_1_method_2_code 35 = .ok ((.getfield 12), 3) := tb_b10_ok (35, (.getfield 12), 3) (List.mem_of_getElem? (i := 18) rfl)
theorem td_10_38 : decode prog_1_method_2_code 38 = .ok ((.iload_n 1), 1) := tb_b10_ok (38, (.iload_n 1), 1) (List.mem_of_getElem? (i := 19) rfl)
theorem td_10_39 : decode prog_1_method_2_code 39 = .ok ((.iload_n 2), 1) := tb_b10_ok (39, (.iload_n 2), 1) (List.mem_of_getElem? (i := 20) rfl)
theorem td_10_40 : decode prog_1_method_2_code 40 = .ok ((.iload_n 3), 1) := tb_b10_ok (40, (.iload_n 3), 1) (List.mem_of_getElem? (i := 21) rfl)
theorem td_10_41 : decode prog_1_method_2_code 41 = .ok ((.iload 4), 2) := tb_b10_ok (41, (.iload 4), 2) (List.mem_of_getElem? (i := 22) rfl)
theorem td_10_43 : decode prog_1_method_2_code 43 = .ok ((.invokevirtual 76), 3) := tb_b10_ok (43, (.invokevirtual 76), 3) (List.mem_of_getElem? (i := 23) rfl)
theorem td_10_46 : decode prog_1_method_2_code 46 = .ok (.ireturn, 1) := tb_b10_ok (46, .ireturn, 1) (List.mem_of_getElem? (i := 24) rfl)
theorem td_12_0 : decode prog_2_method_3_code 0 = .ok ((.iload_n 1), 1) := tb_b12_ok (0, (.iload_n 1), 1) (List.mem_of_getElem? (i := 0) rfl)
theorem td_12_1 : decode prog_2_method_3_code 1 = .ok ((.ifCond .lt (9)), 3) := tb_b12_ok (1, (.ifCond .lt (9)), 3) (List.mem_of_getElem? (i := 1) rfl)
theorem td_12_4 : decode prog_2_method_3_code 4 = .ok ((.iload_n 1), 1) := tb_b12_ok (4, (.iload_n 1), 1) (List.mem_of_getElem? (i := 2) rfl)
theorem td_12_5 : decode prog_2_method_3_code 5 = .ok ((.bipush (18)), 2) := tb_b12_ok (5, (.bipush (18)), 2) (List.mem_of_getElem? (i := 3) rfl)
theorem td_12_7 : decode prog_2_method_3_code 7 = .ok ((.if_icmp .le (5)), 3) := tb_b12_ok (7, (.if_icmp .le (5)), 3) (List.mem_of_getElem? (i := 4) rfl)
theorem td_12_10 : decode prog_2_method_3_code 10 = .ok ((.iconst (0)), 1) := tb_b12_ok (10, (.iconst (0)), 1) (List.mem_of_getElem? (i := 5) rfl)
theorem td_12_11 : decode prog_2_method_3_code 11 = .ok (.ireturn, 1) := tb_b12_ok (11, .ireturn, 1) (List.mem_of_getElem? (i := 6) rfl)
theorem td_12_12 : decode prog_2_method_3_code 12 = .ok ((.iload_n 1), 1) := tb_b12_ok (12, (.iload_n 1), 1) (List.mem_of_getElem? (i := 7) rfl)
theorem td_12_13 : decode prog_2_method_3_code 13 = .ok ((.invokestatic 49), 3) := tb_b12_ok (13, (.invokestatic 49), 3) (List.mem_of_getElem? (i := 8) rfl)
theorem td_12_16 : decode prog_2_method_3_code 16 = .ok ((.ifCond .eq (10)), 3) := tb_b12_ok (16, (.ifCond .eq (10)), 3) (List.mem_of_getElem? (i := 9) rfl)
theorem td_12_19 : decode prog_2_method_3_code 19 = .ok ((.iload_n 2), 1) := tb_b12_ok (19, (.iload_n 2), 1) (List.mem_of_getElem? (i := 10) rfl)
theorem td_12_20 : decode prog_2_method_3_code 20 = .ok ((.invokestatic 53), 3) := tb_b12_ok (20, (.invokestatic 53), 3) (List.mem_of_getElem? (i := 11) rfl)
theorem td_12_23 : decode prog_2_method_3_code 23 = .ok ((.ifCond .eq (36)), 3) := tb_b12_ok (23, (.ifCond .eq (36)), 3) (List.mem_of_getElem? (i := 12) rfl)
theorem td_12_26 : decode prog_2_method_3_code 26 = .ok ((.iload_n 1), 1) := tb_b12_ok (26, (.iload_n 1), 1) (List.mem_of_getElem? (i := 13) rfl)
theorem td_12_27 : decode prog_2_method_3_code 27 = .ok ((.invokestatic 56), 3) := tb_b12_ok (27, (.invokestatic 56), 3) (List.mem_of_getElem? (i := 14) rfl)
theorem td_12_30 : decode prog_2_method_3_code 30 = .ok ((.ifCond .eq (10)), 3) := tb_b12_ok (30, (.ifCond .eq (10)), 3) (List.mem_of_getElem? (i := 15) rfl)
theorem td_12_33 : decode prog_2_method_3_code 33 = .ok ((.iload_n 3), 1) := tb_b12_ok (33, (.iload_n 3), 1) (List.mem_of_getElem? (i := 16) rfl)
theorem td_12_34 : decode prog_2_method_3_code 34 = .ok ((.invokestatic 53), 3) := tb_b12_ok (34, (.invokestatic 53), 3) (List.mem_of_getElem? (i := 17) rfl)
theorem td_12_37 : decode prog_2_method_3_code 37 = .ok ((.ifCond .eq (22)), 3) := tb_b12_ok (37, (.ifCond .eq (22)), 3) (List.mem_of_getElem? (i := 18) rfl)
theorem td_12_40 : decode prog_2_method_3_code 40 = .ok ((.iload_n 1), 1) := tb_b12_ok (40, (.iload_n 1), 1) (List.mem_of_getElem? (i := 19) rfl)
theorem td_12_41 : decode prog_2_method_3_code 41 = .ok ((.invokestatic 59), 3) := tb_b12_ok (41, (.invokestatic 59), 3) (List.mem_of_getElem? (i := 20) rfl)
theorem td_12_44 : decode prog_2_method_3_code 44 = .ok ((.ifCond .eq (11)), 3) := tb_b12_ok (44, (.ifCond .eq (11)), 3) (List.mem_of_getElem? (i := 21) rfl)
theorem td_12_47 : decode prog_2_method_3_code 47 = .ok ((.iload 4), 2) := tb_b12_ok (47, (.iload 4), 2) (List.mem_of_getElem? (i := 22) rfl)
theorem td_12_49 : decode prog_2_method_3_code 49 = .ok ((.invokestatic 53), 3) := tb_b12_ok (49, (.invokestatic 53), 3) (List.mem_of_getElem? (i := 23) rfl)
theorem td_12_52 : decode prog_2_method_3_code 52 = .ok ((.ifCond .eq (7)), 3) := tb_b12_ok (52, (.ifCond .eq (7)), 3) (List.mem_of_getElem? (i := 24) rfl)
theorem td_12_55 : decode prog_2_method_3_code 55 = .ok ((.iconst (1)), 1) := tb_b12_ok (55, (.iconst (1)), 1) (List.mem_of_getElem? (i := 25) rfl)
theorem td_12_56 : decode prog_2_method_3_code 56 = .ok ((.goto (4)), 3) := tb_b12_ok (56, (.goto (4)), 3) (List.mem_of_getElem? (i := 26) rfl)
theorem td_12_59 : decode prog_2_method_3_code 59 = .ok ((.iconst (0)), 1) := tb_b12_ok (59, (.iconst (0)), 1) (List.mem_of_getElem? (i := 27) rfl)
theorem td_12_60 : decode prog_2_method_3_code 60 = .ok (.ireturn, 1) := tb_b12_ok (60, .ireturn, 1) (List.mem_of_getElem? (i := 28) rfl)
theorem td_18_0 : decode prog_2_method_8_code 0 = .ok ((.aload_n 0), 1) := tb_b18_ok (0, (.aload_n 0), 1) (List.mem_of_getElem? (i := 0) rfl)
theorem td_18_1 : decode prog_2_method_8_code 1 = .ok ((.getfield 9), 3) := tb_b18_ok (1, (.getfield 9), 3) (List.mem_of_getElem? (i := 1) rfl)
theorem td_18_4 : decode prog_2_method_8_code 4 = .ok ((.aload_n 0), 1) := tb_b18_ok (4, (.aload_n 0), 1) (List.mem_of_getElem? (i := 2) rfl)
theorem td_18_5 : decode prog_2_method_8_code 5 = .ok ((.getfield 45), 3) := tb_b18_ok (5, (.getfield 45), 3) (List.mem_of_getElem? (i := 3) rfl)
theorem td_18_8 : decode prog_2_method_8_code 8 = .ok ((.iload_n 1), 1) := tb_b18_ok (8, (.iload_n 1), 1) (List.mem_of_getElem? (i := 4) rfl)
theorem td_18_9 : decode prog_2_method_8_code 9 = .ok (.iastore, 1) := tb_b18_ok (9, .iastore, 1) (List.mem_of_getElem? (i := 5) rfl)
theorem td_18_10 : decode prog_2_method_8_code 10 = .ok ((.aload_n 0), 1) := tb_b18_ok (10, (.aload_n 0), 1) (List.mem_of_getElem? (i := 6) rfl)
theorem td_18_11 : decode prog_2_method_8_code 11 = .ok ((.getfield 15), 3) := tb_b18_ok (11, (.getfield 15), 3) (List.mem_of_getElem? (i := 7) rfl)
theorem td_18_14 : decode prog_2_method_8_code 14 = .ok ((.aload_n 0), 1) := tb_b18_ok (14, (.aload_n 0), 1) (List.mem_of_getElem? (i := 8) rfl)
theorem td_18_15 : decode prog_2_method_8_code 15 = .ok ((.getfield 45), 3) := tb_b18_ok (15, (.getfield 45), 3) (List.mem_of_getElem? (i := 9) rfl)
theorem td_18_18 : decode prog_2_method_8_code 18 = .ok ((.iload_n 2), 1) := tb_b18_ok (18, (.iload_n 2), 1) (List.mem_of_getElem? (i := 10) rfl)
theorem td_18_19 : decode prog_2_method_8_code 19 = .ok (.iastore, 1) := tb_b18_ok (19, .iastore, 1) (List.mem_of_getElem? (i := 11) rfl)
theorem td_18_20 : decode prog_2_method_8_code 20 = .ok ((.aload_n 0), 1) := tb_b18_ok (20, (.aload_n 0), 1) (List.mem_of_getElem? (i := 12) rfl)
theorem td_18_21 : decode prog_2_method_8_code 21 = .ok ((.getfield 18), 3) := tb_b18_ok (21, (.getfield 18), 3) (List.mem_of_getElem? (i := 13) rfl)
theorem td_18_24 : decode prog_2_method_8_code 24 = .ok ((.aload_n 0), 1) := tb_b18_ok (24, (.aload_n 0), 1) (List.mem_of_getElem? (i := 14) rfl)
theorem td_18_25 : decode prog_2_method_8_code 25 = .ok ((.getfield 45), 3) := tb_b18_ok (25, (.getfield 45), 3) (List.mem_of_getElem? (i := 15) rfl)
theorem td_18_28 : decode prog_2_method_8_code 28 = .ok ((.iload_n 3), 1) := tb_b18_ok (28, (.iload_n 3), 1) (List.mem_of_getElem? (i := 16) rfl)
theorem td_18_29 : decode prog_2_method_8_code 29 = .ok (.iastore, 1) := tb_b18_ok (29, .iastore, 1) (List.mem_of_getElem? (i := 17) rfl)
theorem td_18_30 : decode prog_2_method_8_code 30 = .ok ((.aload_n 0), 1) := tb_b18_ok (30, (.aload_n 0), 1) (List.mem_of_getElem? (i := 18) rfl)
theorem td_18_31 : decode prog_2_method_8_code 31 = .ok ((.getfield 21), 3) := tb_b18_ok (31, (.getfield 21), 3) (List.mem_of_getElem? (i := 19) rfl)
theorem td_18_34 : decode prog_2_method_8_code 34 = .ok ((.aload_n 0), 1) := tb_b18_ok (34, (.aload_n 0), 1) (List.mem_of_getElem? (i := 20) rfl)
theorem td_18_35 : decode prog_2_method_8_code 35 = .ok ((.getfield 45), 3) := tb_b18_ok (35, (.getfield 45), 3) (List.mem_of_getElem? (i := 21) rfl)
theorem td_18_38 : decode prog_2_method_8_code 38 = .ok ((.iload 4), 2) := tb_b18_ok (38, (.iload 4), 2) (List.mem_of_getElem? (i := 22) rfl)
theorem td_18_40 : decode prog_2_method_8_code 40 = .ok (.iastore, 1) := tb_b18_ok (40, .iastore, 1) (List.mem_of_getElem? (i := 23) rfl)
theorem td_18_41 : decode prog_2_method_8_code 41 = .ok ((.aload_n 0), 1) := tb_b18_ok (41, (.aload_n 0), 1) (List.mem_of_getElem? (i := 24) rfl)
theorem td_18_42 : decode prog_2_method_8_code 42 = .ok (.dup, 1) := tb_b18_ok (42, .dup, 1) (List.mem_of_getElem? (i := 25) rfl)
theorem td_18_43 : decode prog_2_method_8_code 43 = .ok ((.getfield 45), 3) := tb_b18_ok (43, (.getfield 45), 3) (List.mem_of_getElem? (i := 26) rfl)
theorem td_18_46 : decode prog_2_method_8_code 46 = .ok ((.iconst (1)), 1) := tb_b18_ok (46, (.iconst (1)), 1) (List.mem_of_getElem? (i := 27) rfl)
theorem td_18_47 : decode prog_2_method_8_code 47 = .ok (.iadd, 1) := tb_b18_ok (47, .iadd, 1) (List.mem_of_getElem? (i := 28) rfl)
theorem td_18_48 : decode prog_2_method_8_code 48 = .ok ((.putfield 45), 3) := tb_b18_ok (48, (.putfield 45), 3) (List.mem_of_getElem? (i := 29) rfl)
theorem td_18_51 : decode prog_2_method_8_code 51 = .ok ((.aload_n 0), 1) := tb_b18_ok (51, (.aload_n 0), 1) (List.mem_of_getElem? (i := 30) rfl)
theorem td_18_52 : decode prog_2_method_8_code 52 = .ok ((.getfield 45), 3) := tb_b18_ok (52, (.getfield 45), 3) (List.mem_of_getElem? (i := 31) rfl)
theorem td_18_55 : decode prog_2_method_8_code 55 = .ok ((.iconst (1)), 1) := tb_b18_ok (55, (.iconst (1)), 1) (List.mem_of_getElem? (i := 32) rfl)
theorem td_18_56 : decode prog_2_method_8_code 56 = .ok (.isub, 1) := tb_b18_ok (56, .isub, 1) (List.mem_of_getElem? (i := 33) rfl)
theorem td_18_57 : decode prog_2_method_8_code 57 = .ok (.ireturn, 1) := tb_b18_ok (57, .ireturn, 1) (List.mem_of_getElem? (i := 34) rfl)
/-! add, on fresh objects -/
theorem in0_32 : vp_in (0 : Int32) 32 := by unfold vp_in; decide
def nD (j : Nat) : Bool := decide (j ≤ 7) || (decide (13 ≤ j ∧ j ≤ 16) || decide (j = 17))
def nA (j : Nat) : Bool := decide (1 ≤ j ∧ j ≤ 9) || (decide (j = 11) || (decide (13 ≤ j ∧ j ≤ 16) || decide (j = 17)))
def nB (j : Nat) : Bool := decide (1 ≤ j ∧ j ≤ 5) || (decide (j = 8) || decide (13 ≤ j ∧ j ≤ 16))
def okb (x y z : Bool) (d a b : Int32) : Bool := (!x || fb d) && ((!y || fb a) && (!z || fb b))
def okop (op d a b : Int32) : Bool := decide (0 ≤ op) && (decide (op ≤ 18) && okb (nD op.toNatClampNeg) (nA op.toNatClampNeg) (nB op.toNatClampNeg) d a b)
theorem okop_neg {op d a b : Int32} (h : op < 0) : okop op d a b = false := by
  unfold okop
  rw [decide_eq_false (Int32.not_le.mpr h)]
  rfl
theorem okop_big {op d a b : Int32} (h : ¬ op ≤ (18 : Int32)) : okop op d a b = false := by
  unfold okop
  rw [decide_eq_false h, Bool.false_and, Bool.and_false]
theorem okop_in {j : Nat} (hj : j ≤ 18) {d a b : Int32} : okop (nI j) d a b = okb (nD j) (nA j) (nB j) d a b := by
  unfold okop
  rw [nI_clamp (show j < 2 ^ 31 by omega), decide_eq_true (nI_pos' (show j < 2 ^ 31 by omega))]
  have h : nI j ≤ (18 : Int32) := nI_le (a := j) (b := 18) hj (by omega)
  rw [decide_eq_true h]
  rfl
theorem op_cases (op : Int32) : op < 0 ∨ ¬ op ≤ (18 : Int32) ∨ ∃ j : Nat, j ≤ 18 ∧ op = nI j := by
  by_cases h1 : op < 0
  · exact Or.inl h1
  · by_cases h2 : op ≤ (18 : Int32)
    · exact Or.inr (Or.inr (nI_of2 (n := 18) (by decide) h1 h2))
    · exact Or.inr (Or.inl h2)
theorem namesD_t : (List.range 19).all (fun j => ev_okW (tb_cf 2 13 [.int (nI j)] ev_s2 ev_P2) (some (.int (bI (nD j)))) ev_s2 0) = true := by decide +kernel
theorem namesD_C {Z : sm_Z} (hZ : Z.2.2.2 = tb_N) (j : Nat) (hj : j ≤ 18) (ad : Nat → Nat) (μ : sm_M) (h : dp_le ev_P2 μ) : sm_C tb_cl Z (tb_ys 13) (tb_ws 13) (dp_rm 2 64 ev_s2 ev_s2) [.int (nI j)] ad ev_s2 μ (fun r sh' μ' => r = some (.int (bI (nD j))) ∧ sh' = ev_s2 ∧ μ' = μ) :=
  (ev_fromW hZ (List.all_eq_true.mp namesD_t j (List.mem_range.mpr (by omega))) ad μ h).imp (fun r sh' μ' q => ⟨q.1, q.2.1, by obtain ⟨w, h1, h2⟩ := q.2.2; exact h2.all (by omega)⟩)
theorem namesA_t : (List.range 19).all (fun j => ev_okW (tb_cf 2 16 [.int (nI j)] ev_s2 ev_P2) (some (.int (bI (nA j)))) ev_s2 0) = true := by decide +kernel
theorem namesA_C {Z : sm_Z} (hZ : Z.2.2.2 = tb_N) (j : Nat) (hj : j ≤ 18) (ad : Nat → Nat) (μ : sm_M) (h : dp_le ev_P2 μ) : sm_C tb_cl Z (tb_ys 16) (tb_ws 16) (dp_rm 2 64 ev_s2 ev_s2) [.int (nI j)] ad ev_s2 μ (fun r sh' μ' => r = some (.int (bI (nA j))) ∧ sh' = ev_s2 ∧ μ' = μ) :=
  (ev_fromW hZ (List.all_eq_true.mp namesA_t j (List.mem_range.mpr (by omega))) ad μ h).imp (fun r sh' μ' q => ⟨q.1, q.2.1, by obtain ⟨w, h1, h2⟩ := q.2.2; exact h2.all (by omega)⟩)
theorem namesB_t : (List.range 19).all (fun j => ev_okW (tb_cf 2 17 [.int (nI j)] ev_s2 ev_P2) (some (.int (bI (nB j)))) ev_s2 0) = true := by decide +kernel
theorem namesB_C {Z : sm_Z} (hZ : Z.2.2.2 = tb_N) (j : Nat) (hj : j ≤ 18) (ad : Nat → Nat) (μ : sm_M) (h : dp_le ev_P2 μ) : sm_C tb_cl Z (tb_ys 17) (tb_ws 17) (dp_rm 2 64 ev_s2 ev_s2) [.int (nI j)] ad ev_s2 μ (fun r sh' μ' => r = some (.int (bI (nB j))) ∧ sh' = ev_s2 ∧ μ' = μ) :=
  (ev_fromW hZ (List.all_eq_true.mp namesB_t j (List.mem_range.mpr (by omega))) ad μ h).imp (fun r sh' μ' q => ⟨q.1, q.2.1, by obtain ⟨w, h1, h2⟩ := q.2.2; exact h2.all (by omega)⟩)
theorem allow_C {Z : sm_Z} (hZ : Z.2.2.2 = tb_N) (op d a b : Int32) (ad : Nat → Nat) (μ : sm_M) (h : dp_le ev_P2 μ) : sm_C tb_cl Z (tb_ys 12) (tb_ws 12) (dp_rm 3 96 ev_s2 ev_s2) [.ref 1, .int op, .int d, .int a, .int b] ad ev_s2 μ (fun r sh' μ' => r = some (.int (bI (okop op d a b))) ∧ sh' = ev_s2 ∧ μ' = μ) := by
    refine sm_enter (cc := prog_2_method_3_code) (nL := 5) (ret := some .boolean) (by decide +kernel) (Nat.le_of_ble_eq_true rfl) (fun X hXZ hX hf => ?_)
    subst hXZ
    rw [show (tb_ys 12).cls = "ProgramSlices$Code" by decide +kernel] at hX
    have out : okop op d a b = false → ∀ L, sm_E tb_cl X 10 L [] ad ev_s2 μ := fun hb L => by
      rw [hb] at hf
      refine sm_iconst hX td_12_10 ?_
      exact sm_zret hX hf rfl rfl (fun _ _ => rfl) rfl (by decide) td_12_11 ⟨rfl, rfl, rfl⟩
    rcases op_cases op with ho | ho | ⟨j, hj, rfl⟩
    · refine sm_iloadN hX td_12_0 rfl ?_
      exact sm_if_lt hX 10 td_12_1 (by decide) (fun _ => out (okop_neg ho) _) (fun z => absurd ho z)
    · refine sm_iloadN hX td_12_0 rfl ?_
      refine sm_if_lt hX 10 td_12_1 (by decide) (fun z => out (okop_neg z) _) (fun _ => ?_)
      refine sm_iloadN hX td_12_4 rfl ?_
      refine sm_bipush hX td_12_5 ?_
      exact sm_icmp_le hX 12 td_12_7 (by decide) (fun z => absurd z ho) (fun _ => out (okop_big ho) _)
    rw [okop_in hj] at hf
    clear out
    have no : okb (nD j) (nA j) (nB j) d a b = false → sm_E tb_cl X 59 [some (.ref 1), some (.int (nI j)), some (.int d), some (.int a), some (.int b)] [] ad ev_s2 μ := fun hb => by
      rw [hb] at hf
      refine sm_iconst hX td_12_59 ?_
      exact sm_zret hX hf rfl rfl (fun _ _ => rfl) rfl (by decide) td_12_60 ⟨rfl, rfl, rfl⟩
    have yes : okb (nD j) (nA j) (nB j) d a b = true → sm_E tb_cl X 55 [some (.ref 1), some (.int (nI j)), some (.int d), some (.int a), some (.int b)] [] ad ev_s2 μ := fun hb => by
      rw [hb] at hf
      refine sm_iconst hX td_12_55 ?_
      refine sm_goto hX 60 td_12_56 (by decide) ?_
      exact sm_zret hX hf rfl rfl (fun _ _ => rfl) rfl (by decide) td_12_60 ⟨rfl, rfl, rfl⟩
    have b40 : (!nD j || fb d) = true → (!nA j || fb a) = true → sm_E tb_cl X 40 [some (.ref 1), some (.int (nI j)), some (.int d), some (.int a), some (.int b)] [] ad ev_s2 μ := fun k1 k2 => by
      refine sm_iloadN hX td_12_40 rfl ?_
      refine tb_s1_4 _ X _ _ _ _ _ _ hZ hX _ _ [] ad ev_s2 μ [.int (nI j)] _ (dp_rm 2 64 ev_s2 ev_s2) rfl trivial (namesB_C hZ j hj ad μ h) (by decide) (by decide) (by decide) (by decide) (by decide) td_12_41 (fun v ad' sh' μ' e1 e2 hag hq => ?_)
      obtain ⟨rfl, rfl, hm⟩ := hq
      rw [sm_ag_eq hag, hm]
      refine ⟨Or.inl (by decide), ?_⟩
      refine sm_if_eq hX 55 td_12_44 (by decide) (fun z => yes (by unfold okb; rw [k1, k2, bI_0 z]; rfl)) (fun z => ?_)
      have z := bI_1 z
      refine sm_iloadG hX td_12_47 rfl ?_
      refine tb_s1_2 _ X _ _ _ _ _ _ hZ hX _ _ [] ad ev_s2 μ [.int b] _ (dp_rm 1 32 ev_s2 ev_s2) rfl trivial (f4_C b ad μ) (by decide) (by decide) (by decide) (by decide) (by decide) td_12_49 (fun v ad' sh' μ' e1 e2 hag hq => ?_)
      obtain ⟨rfl, rfl, hm⟩ := hq
      rw [sm_ag_eq hag, hm]
      refine ⟨Or.inl (by decide), ?_⟩
      exact sm_if_eq hX 59 td_12_52 (by decide) (fun y => no (by unfold okb; rw [k1, k2, z, bI_0 y]; rfl)) (fun y => yes (by unfold okb; rw [k1, k2, z, bI_1 y]; rfl))
    have b26 : (!nD j || fb d) = true → sm_E tb_cl X 26 [some (.ref 1), some (.int (nI j)), some (.int d), some (.int a), some (.int b)] [] ad ev_s2 μ := fun k1 => by
      refine sm_iloadN hX td_12_26 rfl ?_
      refine tb_s1_3 _ X _ _ _ _ _ _ hZ hX _ _ [] ad ev_s2 μ [.int (nI j)] _ (dp_rm 2 64 ev_s2 ev_s2) rfl trivial (namesA_C hZ j hj ad μ h) (by decide) (by decide) (by decide) (by decide) (by decide) td_12_27 (fun v ad' sh' μ' e1 e2 hag hq => ?_)
      obtain ⟨rfl, rfl, hm⟩ := hq
      rw [sm_ag_eq hag, hm]
      refine ⟨Or.inl (by decide), ?_⟩
      refine sm_if_eq hX 40 td_12_30 (by decide) (fun z => b40 k1 (by rw [bI_0 z]; rfl)) (fun z => ?_)
      have z := bI_1 z
      refine sm_iloadN hX td_12_33 rfl ?_
      refine tb_s1_2 _ X _ _ _ _ _ _ hZ hX _ _ [] ad ev_s2 μ [.int a] _ (dp_rm 1 32 ev_s2 ev_s2) rfl trivial (f4_C a ad μ) (by decide) (by decide) (by decide) (by decide) (by decide) td_12_34 (fun v ad' sh' μ' e1 e2 hag hq => ?_)
      obtain ⟨rfl, rfl, hm⟩ := hq
      rw [sm_ag_eq hag, hm]
      refine ⟨Or.inl (by decide), ?_⟩
      exact sm_if_eq hX 59 td_12_37 (by decide) (fun y => no (by unfold okb; rw [k1, z, bI_0 y]; rfl)) (fun y => b40 k1 (by rw [bI_1 y, Bool.or_true]))
    refine sm_iloadN hX td_12_0 rfl ?_
    refine sm_if_lt hX 10 td_12_1 (by decide) (fun z => absurd z (nI_pos (show j < 2 ^ 31 by omega))) (fun _ => ?_)
    refine sm_iloadN hX td_12_4 rfl ?_
    refine sm_bipush hX td_12_5 ?_
    refine sm_icmp_le hX 12 td_12_7 (by decide) (fun _ => ?_) (fun z => absurd (nI_le (a := j) (b := 18) hj (by omega)) z)
    refine sm_iloadN hX td_12_12 rfl ?_
    refine tb_s1_0 _ X _ _ _ _ _ _ hZ hX _ _ [] ad ev_s2 μ [.int (nI j)] _ (dp_rm 2 64 ev_s2 ev_s2) rfl trivial (namesD_C hZ j hj ad μ h) (by decide) (by decide) (by decide) (by decide) (by decide) td_12_13 (fun v ad' sh' μ' e1 e2 hag hq => ?_)
    obtain ⟨rfl, rfl, hm⟩ := hq
    rw [sm_ag_eq hag, hm]
    refine ⟨Or.inl (by decide), ?_⟩
    refine sm_if_eq hX 26 td_12_16 (by decide) (fun z => b26 (by rw [bI_0 z]; rfl)) (fun z => ?_)
    have z := bI_1 z
    refine sm_iloadN hX td_12_19 rfl ?_
    refine tb_s1_2 _ X _ _ _ _ _ _ hZ hX _ _ [] ad ev_s2 μ [.int d] _ (dp_rm 1 32 ev_s2 ev_s2) rfl trivial (f4_C d ad μ) (by decide) (by decide) (by decide) (by decide) (by decide) td_12_20 (fun v ad' sh' μ' e1 e2 hag hq => ?_)
    obtain ⟨rfl, rfl, hm⟩ := hq
    rw [sm_ag_eq hag, hm]
    refine ⟨Or.inl (by decide), ?_⟩
    exact sm_if_eq hX 59 td_12_23 (by decide) (fun y => no (by unfold okb; rw [z, bI_0 y]; rfl)) (fun y => b26 (by rw [bI_1 y, Bool.or_true]))
theorem appd_C {Z : sm_Z} (op d a b : Int32) (ad : Nat → Nat) (μ : sm_M) (h : dp_le ev_P2 μ) : sm_C tb_cl Z (tb_ys 18) (tb_ws 18) (dp_rm 1 32 ev_s2 ev_s2) [.ref 1, .int op, .int d, .int a, .int b] ad ev_s2 μ (fun r sh' μ' => r = some (.int 0) ∧ sh' = ev_s2 ∧ dp_le ev_Pm μ') := by
  refine sm_enter (cc := prog_2_method_8_code) (nL := 5) (ret := some .int) (by decide +kernel) (Nat.le_of_ble_eq_true rfl) (fun X hXZ hX hf => ?_)
  rw [show (tb_ys 18).cls = "ProgramSlices$Code" by decide +kernel] at hX
  have hc : μ.1 1 4 = 0 := h.1 1 4 0 (by decide +kernel)
  refine sm_aloadN hX td_18_0 rfl ?_
  refine sm_getR hX (k := 0) (q := 2) (ci := 1) (T := tb_T1) (N' := 14) (C := "ProgramSlices$Code") rfl rfl (by decide) rfl tb_u1 tb_w211 td_18_1 ?_
  refine sm_aloadN hX td_18_4 rfl ?_
  refine sm_getI hX (k := 4) (ci := 1) (T := tb_T1) (N' := 14) (C := "ProgramSlices$Code") rfl rfl (by decide) rfl tb_u1 tb_w215 td_18_5 ?_
  rw [show (μ).1 1 4 = 0 from hc]
  refine sm_iloadN hX td_18_8 rfl ?_
  refine sm_iast hX (p := 2) (len := 32) rfl in0_32 td_18_9 ?_
  refine sm_aloadN hX td_18_10 rfl ?_
  refine sm_getR hX (k := 1) (q := 3) (ci := 1) (T := tb_T1) (N' := 14) (C := "ProgramSlices$Code") rfl rfl (by decide) rfl tb_u1 tb_w212 td_18_11 ?_
  refine sm_aloadN hX td_18_14 rfl ?_
  refine sm_getI hX (k := 4) (ci := 1) (T := tb_T1) (N' := 14) (C := "ProgramSlices$Code") rfl rfl (by decide) rfl tb_u1 tb_w215 td_18_15 ?_
  rw [show (sm_ui (μ) 2 (0 : Int32).toNatClampNeg op).1 1 4 = 0 from hc]
  refine sm_iloadN hX td_18_18 rfl ?_
  refine sm_iast hX (p := 3) (len := 32) rfl in0_32 td_18_19 ?_
  refine sm_aloadN hX td_18_20 rfl ?_
  refine sm_getR hX (k := 2) (q := 4) (ci := 1) (T := tb_T1) (N' := 14) (C := "ProgramSlices$Code") rfl rfl (by decide) rfl tb_u1 tb_w213 td_18_21 ?_
  refine sm_aloadN hX td_18_24 rfl ?_
  refine sm_getI hX (k := 4) (ci := 1) (T := tb_T1) (N' := 14) (C := "ProgramSlices$Code") rfl rfl (by decide) rfl tb_u1 tb_w215 td_18_25 ?_
  rw [show (sm_ui (sm_ui (μ) 2 (0 : Int32).toNatClampNeg op) 3 (0 : Int32).toNatClampNeg d).1 1 4 = 0 from hc]
  refine sm_iloadN hX td_18_28 rfl ?_
  refine sm_iast hX (p := 4) (len := 32) rfl in0_32 td_18_29 ?_
  refine sm_aloadN hX td_18_30 rfl ?_
  refine sm_getR hX (k := 3) (q := 5) (ci := 1) (T := tb_T1) (N' := 14) (C := "ProgramSlices$Code") rfl rfl (by decide) rfl tb_u1 tb_w214 td_18_31 ?_
  refine sm_aloadN hX td_18_34 rfl ?_
  refine sm_getI hX (k := 4) (ci := 1) (T := tb_T1) (N' := 14) (C := "ProgramSlices$Code") rfl rfl (by decide) rfl tb_u1 tb_w215 td_18_35 ?_
  rw [show (sm_ui (sm_ui (sm_ui (μ) 2 (0 : Int32).toNatClampNeg op) 3 (0 : Int32).toNatClampNeg d) 4 (0 : Int32).toNatClampNeg a).1 1 4 = 0 from hc]
  refine sm_iloadG hX td_18_38 rfl ?_
  refine sm_iast hX (p := 5) (len := 32) rfl in0_32 td_18_40 ?_
  refine sm_aloadN hX td_18_41 rfl ?_
  refine sm_dup hX td_18_42 rfl ?_
  refine sm_getI hX (k := 4) (ci := 1) (T := tb_T1) (N' := 14) (C := "ProgramSlices$Code") rfl rfl (by decide) rfl tb_u1 tb_w215 td_18_43 ?_
  rw [show (sm_ui (sm_ui (sm_ui (sm_ui (μ) 2 (0 : Int32).toNatClampNeg op) 3 (0 : Int32).toNatClampNeg d) 4 (0 : Int32).toNatClampNeg a) 5 (0 : Int32).toNatClampNeg b).1 1 4 = 0 from hc]
  refine sm_iconst hX td_18_46 ?_
  refine sm_iadd hX td_18_47 ?_
  refine sm_put hX (k := 4) (ci := 1) (T := tb_T1) (N' := 14) (C := "ProgramSlices$Code") (ty := .int) rfl rfl ⟨tb_t1, rfl, by decide, tb_u1, tb_y1, tb_n1, rfl, rfl⟩ tb_w215 rfl rfl td_18_48 ?_
  refine sm_aloadN hX td_18_51 rfl ?_
  refine sm_getI hX (k := 4) (ci := 1) (T := tb_T1) (N' := 14) (C := "ProgramSlices$Code") rfl rfl (by decide) rfl tb_u1 tb_w215 td_18_52 ?_
  rw [show (sm_ui (sm_ui (sm_ui (sm_ui (sm_ui (μ) 2 (0 : Int32).toNatClampNeg op) 3 (0 : Int32).toNatClampNeg d) 4 (0 : Int32).toNatClampNeg a) 5 (0 : Int32).toNatClampNeg b) 1 4 (0 + Int32.ofInt 1)).1 1 4 = 1 from rfl]
  refine sm_iconst hX td_18_55 ?_
  refine sm_isub hX td_18_56 ?_
  exact sm_iret hX hf rfl rfl (fun _ _ => rfl) rfl td_18_57 ⟨rfl, rfl, ev_Pm_le h (dp_ou.ui (dp_ou.ui (dp_ou.ui (dp_ou.ui (dp_ou.ui dp_ou.rf _ _ _) _ _ _) _ _ _) _ _ _) _ _ _) (by decide)⟩
theorem room_t : ev_okW (tb_cf 1 11 [.ref 1] ev_s2 ev_P2) (some (.int 1)) ev_s2 0 = true := by decide +kernel
theorem room_C {Z : sm_Z} (hZ : Z.2.2.2 = tb_N) (ad : Nat → Nat) (μ : sm_M) (h : dp_le ev_P2 μ) : sm_C tb_cl Z (tb_ys 11) (tb_ws 11) (dp_rm 1 32 ev_s2 ev_s2) [.ref 1] ad ev_s2 μ (fun r sh' μ' => r = some (.int 1) ∧ sh' = ev_s2 ∧ μ' = μ) :=
  (ev_fromW hZ room_t ad μ h).imp (fun r sh' μ' q => ⟨q.1, q.2.1, by obtain ⟨w, h1, h2⟩ := q.2.2; exact h2.all (by omega)⟩)
def aI (b : Bool) : Int32 := bif b then 0 else -1
theorem add_C {Z : sm_Z} (hZ : Z.2.2.2 = tb_N) (op d a b : Int32) (ad : Nat → Nat) (μ : sm_M) (h : dp_le ev_P2 μ) : sm_C tb_cl Z (tb_ys 10) (tb_ws 10) (dp_rm 4 128 ev_s2 ev_s2) [.ref 0, .int op, .int d, .int a, .int b] ad ev_s2 μ (fun r sh' μ' => r = some (.int (aI (okop op d a b))) ∧ sh' = ev_s2 ∧ dp_le ev_Pm μ') := by
    refine sm_enter (cc := prog_1_method_2_code) (nL := 5) (ret := some .int) (by decide +kernel) (Nat.le_of_ble_eq_true rfl) (fun X hXZ hX hf => ?_)
    subst hXZ
    rw [show (tb_ys 10).cls = "ProgramSlices" by decide +kernel] at hX
    have hbu : μ.1 0 7 = 0 := h.1 0 7 0 (by decide +kernel)
    refine sm_aloadN hX td_10_0 rfl ?_
    refine sm_getI hX (k := 7) (ci := 0) (T := tb_T0) (N' := 8) (C := "ProgramSlices") rfl rfl (by decide) rfl tb_u0 tb_w8 td_10_1 ?_
    rw [hbu]
    refine sm_if_ne hX 32 td_10_4 (by decide) (fun z => absurd rfl z) (fun _ => ?_)
    refine sm_aloadN hX td_10_7 rfl ?_
    refine sm_getR hX (k := 0) (q := 1) (ci := 0) (T := tb_T0) (N' := 8) (C := "ProgramSlices") rfl rfl (by decide) rfl tb_u0 tb_w1 td_10_8 ?_
    refine tb_v0_0 _ X _ _ _ _ _ _ hZ hX _ _ [] ad ev_s2 μ [.ref 1] _ (dp_rm 1 32 ev_s2 ev_s2) rfl ⟨1, _, _, rfl, rfl⟩ (room_C hZ ad μ h) (by decide) (by decide) (by decide) (by decide) (by decide) td_10_11 (fun v ad' sh' μ' e1 e2 hag hq => ?_)
    obtain ⟨rfl, rfl, hm⟩ := hq
    rw [sm_ag_eq hag, hm]
    refine ⟨Or.inl (by decide), ?_⟩
    refine sm_if_eq hX 32 td_10_14 (by decide) (fun z => absurd z (by decide)) (fun _ => ?_)
    refine sm_aloadN hX td_10_17 rfl ?_
    refine sm_getR hX (k := 0) (q := 1) (ci := 0) (T := tb_T0) (N' := 8) (C := "ProgramSlices") rfl rfl (by decide) rfl tb_u0 tb_w1 td_10_18 ?_
    refine sm_iloadN hX td_10_21 rfl ?_
    refine sm_iloadN hX td_10_22 rfl ?_
    refine sm_iloadN hX td_10_23 rfl ?_
    refine sm_iloadG hX td_10_24 rfl ?_
    refine tb_v0_1 _ X _ _ _ _ _ _ hZ hX _ _ [] ad ev_s2 μ [.ref 1, .int op, .int d, .int a, .int b] _ (dp_rm 3 96 ev_s2 ev_s2) rfl ⟨1, _, _, rfl, rfl⟩ (allow_C hZ op d a b ad μ h) (by decide) (by decide) (by decide) (by decide) (by decide) td_10_26 (fun v ad' sh' μ' e1 e2 hag hq => ?_)
    obtain ⟨rfl, rfl, hm⟩ := hq
    rw [sm_ag_eq hag, hm]
    refine ⟨Or.inl (by decide), ?_⟩
    refine sm_if_ne hX 34 td_10_29 (by decide) (fun z => ?_) (fun z => ?_)
    · rw [bI_1 z] at hf
      refine sm_aloadN hX td_10_34 rfl ?_
      refine sm_getR hX (k := 0) (q := 1) (ci := 0) (T := tb_T0) (N' := 8) (C := "ProgramSlices") rfl rfl (by decide) rfl tb_u0 tb_w1 td_10_35 ?_
      refine sm_iloadN hX td_10_38 rfl ?_
      refine sm_iloadN hX td_10_39 rfl ?_
      refine sm_iloadN hX td_10_40 rfl ?_
      refine sm_iloadG hX td_10_41 rfl ?_
      refine tb_v0_2 _ X _ _ _ _ _ _ hZ hX _ _ [] ad ev_s2 μ [.ref 1, .int op, .int d, .int a, .int b] _ (dp_rm 1 32 ev_s2 ev_s2) rfl ⟨1, _, _, rfl, rfl⟩ (appd_C op d a b ad μ h) (by decide) (by decide) (by decide) (by decide) (by decide) td_10_43 (fun v ad' sh' μ' e1 e2 hag hq => ?_)
      obtain ⟨rfl, rfl, hm⟩ := hq
      rw [sm_ag_eq hag]
      refine ⟨Or.inl (by decide), ?_⟩
      exact sm_iret hX hf rfl rfl (fun _ _ => rfl) rfl td_10_46 ⟨rfl, rfl, hm⟩
    · rw [bI_0 z] at hf
      refine sm_iconst hX td_10_32 ?_
      exact sm_iret hX hf rfl rfl (fun _ _ => rfl) rfl td_10_33 ⟨rfl, rfl, ev_same h⟩
