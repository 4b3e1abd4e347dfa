theorem dp_dec {cc : ByteArray} {l : List (Nat × Instr × Nat)} (h : l.all (fun e => match decode cc e.1 with | .ok x => decide (x = e.2) | _ => false) = true) : ∀ e ∈ l, decode cc e.1 = .ok e.2 := by
  intro e he
  have h1 := List.all_eq_true.mp h e he
  split at h1
  · rename_i x hx
    rw [hx, of_decide_eq_true h1]
  · cases h1
def tb_b0 : List (Nat × Instr × Nat) := [(0, (.aload_n 0), 1), (1, (.invokespecial 3), 3), (4, (.aload_n 0), 1), (5, (.new 9), 3), (8, .dup, 1), (9, (.invokespecial 11), 3), (12, (.putfield 12), 3), (15, (.aload_n 0), 1), (16, (.new 16), 3), (19, .dup, 1), (20, (.aload_n 0), 1), (21, (.getfield 12), 3), (24, (.invokespecial 18), 3), (27, (.putfield 21), 3), (30, (.aload_n 0), 1), (31, (.new 25), 3), (34, .dup, 1), (35, (.aload_n 0), 1), (36, (.getfield 12), 3), (39, (.aload_n 0), 1), (40, (.getfield 21), 3), (43, (.invokespecial 27), 3), (46, (.putfield 30), 3), (49, (.aload_n 0), 1), (50, (.new 34), 3), (53, .dup, 1), (54, (.aload_n 0), 1), (55, (.getfield 12), 3), (58, (.invokespecial 36), 3), (61, (.putfield 37), 3), (64, (.aload_n 0), 1), (65, (.new 41), 3), (68, .dup, 1), (69, (.invokespecial 43), 3), (72, (.putfield 44), 3), (75, (.aload_n 0), 1), (76, (.new 48), 3), (79, .dup, 1), (80, (.aload_n 0), 1), (81, (.getfield 12), 3), (84, (.aload_n 0), 1), (85, (.getfield 44), 3), (88, (.invokespecial 50), 3), (91, (.putfield 53), 3), (94, (.aload_n 0), 1), (95, (.new 57), 3), (98, .dup, 1), (99, (.invokespecial 59), 3), (102, (.putfield 60), 3), (105, (.aload_n 0), 1), (106, (.iconst (0)), 1), (107, (.putfield 64), 3), (110, .return_, 1)]
theorem tb_b0_ok : ∀ e ∈ tb_b0, decode prog_1_method_1_code e.1 = .ok e.2 := by
  have h : tb_b0.all (fun e => match decode prog_1_method_1_code e.1 with | .ok x => decide (x = e.2) | _ => false) = true := by decide +kernel
  exact dp_dec h
def tb_b1 : List (Nat × Instr × Nat) := [(0, (.aload_n 0), 1), (1, (.invokespecial 3), 3), (4, (.aload_n 0), 1), (5, (.bipush (32)), 2), (7, (.newarray .int), 2), (9, (.putfield 9), 3), (12, (.aload_n 0), 1), (13, (.bipush (32)), 2), (15, (.newarray .int), 2), (17, (.putfield 15), 3), (20, (.aload_n 0), 1), (21, (.bipush (32)), 2), (23, (.newarray .int), 2), (25, (.putfield 18), 3), (28, (.aload_n 0), 1), (29, (.bipush (32)), 2), (31, (.newarray .int), 2), (33, (.putfield 21), 3), (36, (.aload_n 0), 1), (37, (.bipush (32)), 2), (39, (.newarray .int), 2), (41, (.putfield 24), 3), (44, (.aload_n 0), 1), (45, (.bipush (32)), 2), (47, (.newarray .int), 2), (49, (.putfield 27), 3), (52, (.aload_n 0), 1), (53, (.bipush (32)), 2), (55, (.newarray .int), 2), (57, (.putfield 30), 3), (60, (.aload_n 0), 1), (61, (.bipush (32)), 2), (63, (.newarray .int), 2), (65, (.putfield 33), 3), (68, (.aload_n 0), 1), (69, (.iconst (4)), 1), (70, (.newarray .int), 2), (72, (.putfield 36), 3), (75, (.aload_n 0), 1), (76, (.iconst (4)), 1), (77, (.newarray .int), 2), (79, (.putfield 39), 3), (82, (.aload_n 0), 1), (83, (.iconst (4)), 1), (84, (.newarray .int), 2), (86, (.putfield 42), 3), (89, .return_, 1)]
theorem tb_b1_ok : ∀ e ∈ tb_b1, decode prog_2_method_1_code e.1 = .ok e.2 := by
  have h : tb_b1.all (fun e => match decode prog_2_method_1_code e.1 with | .ok x => decide (x = e.2) | _ => false) = true := by decide +kernel
  exact dp_dec h
def tb_b2 : List (Nat × Instr × Nat) := [(0, (.aload_n 0), 1), (1, (.invokespecial 3), 3), (4, (.aload_n 0), 1), (5, (.sipush (2016)), 3), (8, (.newarray .int), 2), (10, (.putfield 9), 3), (13, (.aload_n 0), 1), (14, (.sipush (2016)), 3), (17, (.newarray .int), 2), (19, (.putfield 15), 3), (22, (.aload_n 0), 1), (23, (.sipush (128)), 3), (26, (.newarray .int), 2), (28, (.putfield 18), 3), (31, (.aload_n 0), 1), (32, (.iconst (4)), 1), (33, (.newarray .int), 2), (35, (.putfield 21), 3), (38, (.aload_n 0), 1), (39, (.iconst (4)), 1), (40, (.newarray .int), 2), (42, (.putfield 24), 3), (45, (.aload_n 0), 1), (46, (.aload_n 1), 1), (47, (.putfield 27), 3), (50, (.aload_n 0), 1), (51, (.new 31), 3), (54, .dup, 1), (55, (.aload_n 1), 1), (56, (.invokespecial 33), 3), (59, (.putfield 36), 3), (62, .return_, 1)]
theorem tb_b2_ok : ∀ e ∈ tb_b2, decode prog_3_method_1_code e.1 = .ok e.2 := by
  have h : tb_b2.all (fun e => match decode prog_3_method_1_code e.1 with | .ok x => decide (x = e.2) | _ => false) = true := by decide +kernel
  exact dp_dec h
def tb_b3 : List (Nat × Instr × Nat) := [(0, (.aload_n 0), 1), (1, (.invokespecial 3), 3), (4, (.aload_n 0), 1), (5, (.bipush (32)), 2), (7, (.newarray .long), 2), (9, (.putfield 9), 3), (12, (.aload_n 0), 1), (13, (.iconst (4)), 1), (14, (.newarray .long), 2), (16, (.putfield 15), 3), (19, (.aload_n 0), 1), (20, (.bipush (32)), 2), (22, (.newarray .long), 2), (24, (.putfield 18), 3), (27, (.aload_n 0), 1), (28, (.bipush (32)), 2), (30, (.newarray .long), 2), (32, (.putfield 21), 3), (35, (.aload_n 0), 1), (36, (.bipush (8)), 2), (38, (.newarray .long), 2), (40, (.putfield 24), 3), (43, (.aload_n 0), 1), (44, (.aload_n 1), 1), (45, (.putfield 27), 3), (48, .return_, 1)]
theorem tb_b3_ok : ∀ e ∈ tb_b3, decode prog_10_method_1_code e.1 = .ok e.2 := by
  have h : tb_b3.all (fun e => match decode prog_10_method_1_code e.1 with | .ok x => decide (x = e.2) | _ => false) = true := by decide +kernel
  exact dp_dec h
def tb_b4 : List (Nat × Instr × Nat) := [(0, (.aload_n 0), 1), (1, (.invokespecial 3), 3), (4, (.aload_n 0), 1), (5, (.bipush (8)), 2), (7, (.newarray .int), 2), (9, (.putfield 9), 3), (12, (.aload_n 0), 1), (13, (.sipush (252)), 3), (16, (.newarray .int), 2), (18, (.putfield 15), 3), (21, (.aload_n 0), 1), (22, (.aload_n 1), 1), (23, (.putfield 18), 3), (26, (.aload_n 0), 1), (27, (.aload_n 2), 1), (28, (.putfield 22), 3), (31, .return_, 1)]
theorem tb_b4_ok : ∀ e ∈ tb_b4, decode prog_9_method_1_code e.1 = .ok e.2 := by
  have h : tb_b4.all (fun e => match decode prog_9_method_1_code e.1 with | .ok x => decide (x = e.2) | _ => false) = true := by decide +kernel
  exact dp_dec h
def tb_b5 : List (Nat × Instr × Nat) := [(0, (.aload_n 0), 1), (1, (.invokespecial 3), 3), (4, (.aload_n 0), 1), (5, (.new 9), 3), (8, .dup, 1), (9, (.invokespecial 11), 3), (12, (.putfield 12), 3), (15, (.aload_n 0), 1), (16, (.iconst (4)), 1), (17, (.newarray .int), 2), (19, (.putfield 18), 3), (22, (.aload_n 0), 1), (23, (.iconst (4)), 1), (24, (.newarray .int), 2), (26, (.putfield 22), 3), (29, (.aload_n 0), 1), (30, (.bipush (28)), 2), (32, (.newarray .int), 2), (34, (.putfield 25), 3), (37, (.aload_n 0), 1), (38, (.bipush (7)), 2), (40, (.newarray .int), 2), (42, (.putfield 28), 3), (45, (.aload_n 0), 1), (46, (.bipush (7)), 2), (48, (.newarray .int), 2), (50, (.putfield 31), 3), (53, (.aload_n 0), 1), (54, (.aload_n 1), 1), (55, (.putfield 34), 3), (58, .return_, 1)]
theorem tb_b5_ok : ∀ e ∈ tb_b5, decode prog_6_method_1_code e.1 = .ok e.2 := by
  have h : tb_b5.all (fun e => match decode prog_6_method_1_code e.1 with | .ok x => decide (x = e.2) | _ => false) = true := by decide +kernel
  exact dp_dec h
def tb_b6 : List (Nat × Instr × Nat) := [(0, (.aload_n 0), 1), (1, (.invokespecial 3), 3), (4, (.aload_n 0), 1), (5, (.bipush (60)), 2), (7, (.newarray .int), 2), (9, (.putfield 9), 3), (12, (.aload_n 0), 1), (13, (.sipush (160)), 3), (16, (.newarray .int), 2), (18, (.putfield 15), 3), (21, (.aload_n 0), 1), (22, (.iconst (4)), 1), (23, (.newarray .int), 2), (25, (.putfield 18), 3), (28, .return_, 1)]
theorem tb_b6_ok : ∀ e ∈ tb_b6, decode prog_5_method_1_code e.1 = .ok e.2 := by
  have h : tb_b6.all (fun e => match decode prog_5_method_1_code e.1 with | .ok x => decide (x = e.2) | _ => false) = true := by decide +kernel
  exact dp_dec h
def tb_b7 : List (Nat × Instr × Nat) := [(0, (.aload_n 0), 1), (1, (.invokespecial 3), 3), (4, (.aload_n 0), 1), (5, (.iconst (5)), 1), (6, (.newarray .int), 2), (8, (.putfield 9), 3), (11, (.aload_n 0), 1), (12, (.iconst (4)), 1), (13, (.newarray .int), 2), (15, (.putfield 15), 3), (18, (.aload_n 0), 1), (19, (.iconst (4)), 1), (20, (.newarray .int), 2), (22, (.putfield 18), 3), (25, (.aload_n 0), 1), (26, (.iconst (1)), 1), (27, (.putfield 21), 3), (30, (.aload_n 0), 1), (31, (.getfield 9), 3), (34, (.iconst (0)), 1), (35, (.iconst (1)), 1), (36, .iastore, 1), (37, .return_, 1)]
theorem tb_b7_ok : ∀ e ∈ tb_b7, decode prog_7_method_1_code e.1 = .ok e.2 := by
  have h : tb_b7.all (fun e => match decode prog_7_method_1_code e.1 with | .ok x => decide (x = e.2) | _ => false) = true := by decide +kernel
  exact dp_dec h
def tb_b8 : List (Nat × Instr × Nat) := [(0, (.aload_n 0), 1), (1, (.invokespecial 3), 3), (4, (.aload_n 0), 1), (5, (.bipush (32)), 2), (7, (.newarray .int), 2), (9, (.putfield 9), 3), (12, (.aload_n 0), 1), (13, (.aload_n 1), 1), (14, (.putfield 15), 3), (17, (.aload_n 0), 1), (18, (.aload_n 2), 1), (19, (.putfield 19), 3), (22, .return_, 1)]
theorem tb_b8_ok : ∀ e ∈ tb_b8, decode prog_4_method_1_code e.1 = .ok e.2 := by
  have h : tb_b8.all (fun e => match decode prog_4_method_1_code e.1 with | .ok x => decide (x = e.2) | _ => false) = true := by decide +kernel
  exact dp_dec h
def tb_b9 : List (Nat × Instr × Nat) := [(0, (.aload_n 0), 1), (1, (.invokespecial 3), 3), (4, (.aload_n 0), 1), (5, (.bipush (8)), 2), (7, (.newarray .int), 2), (9, (.putfield 9), 3), (12, .return_, 1)]
theorem tb_b9_ok : ∀ e ∈ tb_b9, decode prog_8_method_1_code e.1 = .ok e.2 := by
  have h : tb_b9.all (fun e => match decode prog_8_method_1_code e.1 with | .ok x => decide (x = e.2) | _ => false) = true := by decide +kernel
  exact dp_dec h
def tb_b10 : List (Nat × Instr × Nat) := [(0, (.aload_n 0), 1), (1, (.getfield 64), 3), (4, (.ifCond .ne (28)), 3), (7, (.aload_n 0), 1), (8, (.getfield 12), 3), (11, (.invokevirtual 68), 3), (14, (.ifCond .eq (18)), 3), (17, (.aload_n 0), 1), (18, (.getfield 12), 3), (21, (.iload_n 1), 1), (22, (.iload_n 2), 1), (23, (.iload_n 3), 1), (24, (.iload 4), 2), (26, (.invokevirtual 72), 3), (29, (.ifCond .ne (5)), 3), (32, (.iconst (-1)), 1), (33, .ireturn, 1), (34, (.aload_n 0), 1), (35, (.getfield 12), 3), (38, (.iload_n 1), 1), (39, (.iload_n 2), 1), (40, (.iload_n 3), 1), (41, (.iload 4), 2), (43, (.invokevirtual 76), 3), (46, .ireturn, 1)]
theorem tb_b10_ok : ∀ e ∈ tb_b10, decode prog_1_method_2_code e.1 = .ok e.2 := by
  have h : tb_b10.all (fun e => match decode prog_1_method_2_code e.1 with | .ok x => decide (x = e.2) | _ => false) = true := by decide +kernel
  exact dp_dec h
def tb_b11 : List (Nat × Instr × Nat) := [(0, (.aload_n 0), 1), (1, (.getfield 45), 3), (4, (.bipush (32)), 2), (6, (.if_icmp .ge (7)), 3), (9, (.iconst (1)), 1), (10, (.goto (4)), 3), (13, (.iconst (0)), 1), (14, .ireturn, 1)]
theorem tb_b11_ok : ∀ e ∈ tb_b11, decode prog_2_method_2_code e.1 = .ok e.2 := by
  have h : tb_b11.all (fun e => match decode prog_2_method_2_code e.1 with | .ok x => decide (x = e.2) | _ => false) = true := by decide +kernel
  exact dp_dec h
def tb_b12 : List (Nat × Instr × Nat) := [(0, (.iload_n 1), 1), (1, (.ifCond .lt (9)), 3), (4, (.iload_n 1), 1), (5, (.bipush (18)), 2), (7, (.if_icmp .le (5)), 3), (10, (.iconst (0)), 1), (11, .ireturn, 1), (12, (.iload_n 1), 1), (13, (.invokestatic 49), 3), (16, (.ifCond .eq (10)), 3), (19, (.iload_n 2), 1), (20, (.invokestatic 53), 3), (23, (.ifCond .eq (36)), 3), (26, (.iload_n 1), 1), (27, (.invokestatic 56), 3), (30, (.ifCond .eq (10)), 3), (33, (.iload_n 3), 1), (34, (.invokestatic 53), 3), (37, (.ifCond .eq (22)), 3), (40, (.iload_n 1), 1), (41, (.invokestatic 59), 3), (44, (.ifCond .eq (11)), 3), (47, (.iload 4), 2), (49, (.invokestatic 53), 3), (52, (.ifCond .eq (7)), 3), (55, (.iconst (1)), 1), (56, (.goto (4)), 3), (59, (.iconst (0)), 1), (60, .ireturn, 1)]
theorem tb_b12_ok : ∀ e ∈ tb_b12, decode prog_2_method_3_code e.1 = .ok e.2 := by
  have h : tb_b12.all (fun e => match decode prog_2_method_3_code e.1 with | .ok x => decide (x = e.2) | _ => false) = true := by decide +kernel
  exact dp_dec h
def tb_b13 : List (Nat × Instr × Nat) := [(0, (.iload_n 0), 1), (1, (.bipush (7)), 2), (3, (.if_icmp .le (16)), 3), (6, (.iload_n 0), 1), (7, (.invokestatic 62), 3), (10, (.ifCond .ne (9)), 3), (13, (.iload_n 0), 1), (14, (.bipush (17)), 2), (16, (.if_icmp .ne (7)), 3), (19, (.iconst (1)), 1), (20, (.goto (4)), 3), (23, (.iconst (0)), 1), (24, .ireturn, 1)]
theorem tb_b13_ok : ∀ e ∈ tb_b13, decode prog_2_method_4_code e.1 = .ok e.2 := by
  have h : tb_b13.all (fun e => match decode prog_2_method_4_code e.1 with | .ok x => decide (x = e.2) | _ => false) = true := by decide +kernel
  exact dp_dec h
def tb_b14 : List (Nat × Instr × Nat) := [(0, (.iload_n 0), 1), (1, (.bipush (13)), 2), (3, (.if_icmp .lt (13)), 3), (6, (.iload_n 0), 1), (7, (.bipush (16)), 2), (9, (.if_icmp .gt (7)), 3), (12, (.iconst (1)), 1), (13, (.goto (4)), 3), (16, (.iconst (0)), 1), (17, .ireturn, 1)]
theorem tb_b14_ok : ∀ e ∈ tb_b14, decode prog_2_method_7_code e.1 = .ok e.2 := by
  have h : tb_b14.all (fun e => match decode prog_2_method_7_code e.1 with | .ok x => decide (x = e.2) | _ => false) = true := by decide +kernel
  exact dp_dec h
def tb_b15 : List (Nat × Instr × Nat) := [(0, (.iload_n 0), 1), (1, (.ifCond .lt (12)), 3), (4, (.iload_n 0), 1), (5, (.iconst (4)), 1), (6, (.if_icmp .ge (7)), 3), (9, (.iconst (1)), 1), (10, (.goto (4)), 3), (13, (.iconst (0)), 1), (14, .ireturn, 1)]
theorem tb_b15_ok : ∀ e ∈ tb_b15, decode prog_1_method_22_code e.1 = .ok e.2 := by
  have h : tb_b15.all (fun e => match decode prog_1_method_22_code e.1 with | .ok x => decide (x = e.2) | _ => false) = true := by decide +kernel
  exact dp_dec h
def tb_b16 : List (Nat × Instr × Nat) := [(0, (.iload_n 0), 1), (1, (.iconst (1)), 1), (2, (.if_icmp .lt (9)), 3), (5, (.iload_n 0), 1), (6, (.bipush (9)), 2), (8, (.if_icmp .le (22)), 3), (11, (.iload_n 0), 1), (12, (.bipush (11)), 2), (14, (.if_icmp .eq (16)), 3), (17, (.iload_n 0), 1), (18, (.invokestatic 62), 3), (21, (.ifCond .ne (9)), 3), (24, (.iload_n 0), 1), (25, (.bipush (17)), 2), (27, (.if_icmp .ne (7)), 3), (30, (.iconst (1)), 1), (31, (.goto (4)), 3), (34, (.iconst (0)), 1), (35, .ireturn, 1)]
theorem tb_b16_ok : ∀ e ∈ tb_b16, decode prog_2_method_5_code e.1 = .ok e.2 := by
  have h : tb_b16.all (fun e => match decode prog_2_method_5_code e.1 with | .ok x => decide (x = e.2) | _ => false) = true := by decide +kernel
  exact dp_dec h
def tb_b17 : List (Nat × Instr × Nat) := [(0, (.iload_n 0), 1), (1, (.iconst (1)), 1), (2, (.if_icmp .lt (8)), 3), (5, (.iload_n 0), 1), (6, (.iconst (5)), 1), (7, (.if_icmp .le (16)), 3), (10, (.iload_n 0), 1), (11, (.bipush (8)), 2), (13, (.if_icmp .eq (10)), 3), (16, (.iload_n 0), 1), (17, (.invokestatic 62), 3), (20, (.ifCond .eq (7)), 3), (23, (.iconst (1)), 1), (24, (.goto (4)), 3), (27, (.iconst (0)), 1), (28, .ireturn, 1)]
theorem tb_b17_ok : ∀ e ∈ tb_b17, decode prog_2_method_6_code e.1 = .ok e.2 := by
  have h : tb_b17.all (fun e => match decode prog_2_method_6_code e.1 with | .ok x => decide (x = e.2) | _ => false) = true := by decide +kernel
  exact dp_dec h
def tb_b18 : List (Nat × Instr × Nat) := [(0, (.aload_n 0), 1), (1, (.getfield 9), 3), (4, (.aload_n 0), 1), (5, (.getfield 45), 3), (8, (.iload_n 1), 1), (9, .iastore, 1), (10, (.aload_n 0), 1), (11, (.getfield 15), 3), (14, (.aload_n 0), 1), (15, (.getfield 45), 3), (18, (.iload_n 2), 1), (19, .iastore, 1), (20, (.aload_n 0), 1), (21, (.getfield 18), 3), (24, (.aload_n 0), 1), (25, (.getfield 45), 3), (28, (.iload_n 3), 1), (29, .iastore, 1), (30, (.aload_n 0), 1), (31, (.getfield 21), 3), (34, (.aload_n 0), 1), (35, (.getfield 45), 3), (38, (.iload 4), 2), (40, .iastore, 1), (41, (.aload_n 0), 1), (42, .dup, 1), (43, (.getfield 45), 3), (46, (.iconst (1)), 1), (47, .iadd, 1), (48, (.putfield 45), 3), (51, (.aload_n 0), 1), (52, (.getfield 45), 3), (55, (.iconst (1)), 1), (56, .isub, 1), (57, .ireturn, 1)]
theorem tb_b18_ok : ∀ e ∈ tb_b18, decode prog_2_method_8_code e.1 = .ok e.2 := by
  have h : tb_b18.all (fun e => match decode prog_2_method_8_code e.1 with | .ok x => decide (x = e.2) | _ => false) = true := by decide +kernel
  exact dp_dec h
def tb_b19 : List (Nat × Instr × Nat) := [(0, (.aload_n 0), 1), (1, (.getfield 12), 3), (4, (.invokevirtual 80), 3), (7, (.aload_n 0), 1), (8, (.getfield 60), 3), (11, (.invokevirtual 83), 3), (14, (.aload_n 0), 1), (15, (.getfield 37), 3), (18, (.invokevirtual 86), 3), (21, (.aload_n 0), 1), (22, (.iconst (0)), 1), (23, (.putfield 64), 3), (26, .return_, 1)]
theorem tb_b19_ok : ∀ e ∈ tb_b19, decode prog_1_method_3_code e.1 = .ok e.2 := by
  have h : tb_b19.all (fun e => match decode prog_1_method_3_code e.1 with | .ok x => decide (x = e.2) | _ => false) = true := by decide +kernel
  exact dp_dec h
def tb_b20 : List (Nat × Instr × Nat) := [(0, (.aload_n 0), 1), (1, (.iconst (0)), 1), (2, (.putfield 45), 3), (5, .return_, 1)]
theorem tb_b20_ok : ∀ e ∈ tb_b20, decode prog_2_method_9_code e.1 = .ok e.2 := by
  have h : tb_b20.all (fun e => match decode prog_2_method_9_code e.1 with | .ok x => decide (x = e.2) | _ => false) = true := by decide +kernel
  exact dp_dec h
def tb_b21 : List (Nat × Instr × Nat) := [(0, (.aload_n 0), 1), (1, (.iconst (0)), 1), (2, (.putfield 15), 3), (5, .return_, 1)]
theorem tb_b21_ok : ∀ e ∈ tb_b21, decode prog_8_method_2_code e.1 = .ok e.2 := by
  have h : tb_b21.all (fun e => match decode prog_8_method_2_code e.1 with | .ok x => decide (x = e.2) | _ => false) = true := by decide +kernel
  exact dp_dec h
def tb_b22 : List (Nat × Instr × Nat) := [(0, (.aload_n 0), 1), (1, (.iconst (0)), 1), (2, (.putfield 38), 3), (5, (.aload_n 0), 1), (6, (.getfield 12), 3), (9, (.invokevirtual 42), 3), (12, .return_, 1)]
theorem tb_b22_ok : ∀ e ∈ tb_b22, decode prog_6_method_3_code e.1 = .ok e.2 := by
  have h : tb_b22.all (fun e => match decode prog_6_method_3_code e.1 with | .ok x => decide (x = e.2) | _ => false) = true := by decide +kernel
  exact dp_dec h
def tb_b23 : List (Nat × Instr × Nat) := [(0, (.aload_n 0), 1), (1, (.iconst (0)), 1), (2, (.putfield 21), 3), (5, (.aload_n 0), 1), (6, (.getfield 18), 3), (9, (.iconst (0)), 1), (10, (.invokestatic 25), 3), (13, .return_, 1)]
theorem tb_b23_ok : ∀ e ∈ tb_b23, decode prog_5_method_2_code e.1 = .ok e.2 := by
  have h : tb_b23.all (fun e => match decode prog_5_method_2_code e.1 with | .ok x => decide (x = e.2) | _ => false) = true := by decide +kernel
  exact dp_dec h
def tb_b24 : List (Nat × Instr × Nat) := [(0, (.iconst (0)), 1), (1, (.istore_n 2), 1), (2, (.aload_n 0), 1), (3, .arraylength, 1), (4, (.istore_n 3), 1), (5, (.iload_n 2), 1), (6, (.iload_n 3), 1), (7, (.if_icmp .ge (13)), 3), (10, (.aload_n 0), 1), (11, (.iload_n 2), 1), (12, (.iload_n 1), 1), (13, .iastore, 1), (14, (.iinc 2 (1)), 3), (17, (.goto (-12)), 3), (20, .return_, 1)]
theorem tb_b24_ok : ∀ e ∈ tb_b24, decode prog_14_method_103_code e.1 = .ok e.2 := by
  have h : tb_b24.all (fun e => match decode prog_14_method_103_code e.1 with | .ok x => decide (x = e.2) | _ => false) = true := by decide +kernel
  exact dp_dec h
def tb_b25 : List (Nat × Instr × Nat) := [(0, (.aload_n 0), 1), (1, (.getfield 64), 3), (4, (.ifCond .eq (6)), 3), (7, (.bipush (-2)), 2), (9, .ireturn, 1), (10, (.aload_n 0), 1), (11, (.getfield 12), 3), (14, (.invokevirtual 89), 3), (17, (.istore_n 1), 1), (18, (.iload_n 1), 1), (19, (.iconst (-1)), 1), (20, (.if_icmp .eq (8)), 3), (23, (.bipush (-3)), 2), (25, (.iload_n 1), 1), (26, .isub, 1), (27, .ireturn, 1), (28, (.aload_n 0), 1), (29, (.getfield 21), 3), (32, (.invokevirtual 93), 3), (35, (.aload_n 0), 1), (36, (.getfield 30), 3), (39, (.invokevirtual 96), 3), (42, (.aload_n 0), 1), (43, (.getfield 53), 3), (46, (.aload_n 0), 1), (47, (.getfield 30), 3), (50, (.invokevirtual 99), 3), (53, (.aload_n 0), 1), (54, (.iconst (1)), 1), (55, (.putfield 64), 3), (58, (.iconst (0)), 1), (59, .ireturn, 1)]
theorem tb_b25_ok : ∀ e ∈ tb_b25, decode prog_1_method_4_code e.1 = .ok e.2 := by
  have h : tb_b25.all (fun e => match decode prog_1_method_4_code e.1 with | .ok x => decide (x = e.2) | _ => false) = true := by decide +kernel
  exact dp_dec h
def tb_b26 : List (Nat × Instr × Nat) := [(0, (.aload_n 0), 1), (1, (.iconst (0)), 1), (2, (.putfield 68), 3), (5, (.aload_n 0), 1), (6, (.iconst (1)), 1), (7, (.putfield 71), 3), (10, (.aload_n 0), 1), (11, (.getfield 36), 3), (14, (.iconst (0)), 1), (15, (.iconst (0)), 1), (16, .iastore, 1), (17, (.iconst (0)), 1), (18, (.istore_n 1), 1), (19, (.iload_n 1), 1), (20, (.aload_n 0), 1), (21, (.getfield 45), 3), (24, (.if_icmp .ge (19)), 3), (27, (.aload_n 0), 1), (28, (.iload_n 1), 1), (29, (.invokevirtual 74), 3), (32, (.ifCond .ne (5)), 3), (35, (.iload_n 1), 1), (36, .ireturn, 1), (37, (.iinc 1 (1)), 3), (40, (.goto (-21)), 3), (43, (.aload_n 0), 1), (44, (.getfield 68), 3), (47, (.ifCond .le (8)), 3), (50, (.aload_n 0), 1), (51, (.getfield 45), 3), (54, .ireturn, 1), (55, (.aload_n 0), 1), (56, (.getfield 39), 3), (59, (.aload_n 0), 1), (60, (.getfield 71), 3), (63, (.iconst (1)), 1), (64, .isub, 1), (65, (.aload_n 0), 1), (66, (.getfield 45), 3), (69, .iastore, 1), (70, (.aload_n 0), 1), (71, (.invokevirtual 77), 3), (74, .ireturn, 1)]
theorem tb_b26_ok : ∀ e ∈ tb_b26, decode prog_2_method_15_code e.1 = .ok e.2 := by
  have h : tb_b26.all (fun e => match decode prog_2_method_15_code e.1 with | .ok x => decide (x = e.2) | _ => false) = true := by decide +kernel
  exact dp_dec h
def tb_b27 : List (Nat × Instr × Nat) := [(0, (.aload_n 0), 1), (1, (.getfield 33), 3), (4, (.iload_n 1), 1), (5, (.aload_n 0), 1), (6, (.getfield 71), 3), (9, (.iconst (1)), 1), (10, .isub, 1), (11, .iastore, 1), (12, (.aload_n 0), 1), (13, (.getfield 24), 3), (16, (.iload_n 1), 1), (17, (.aload_n 0), 1), (18, (.getfield 68), 3), (21, (.ifCond .ne (7)), 3), (24, (.iconst (-1)), 1), (25, (.goto (14)), 3), (28, (.aload_n 0), 1), (29, (.getfield 42), 3), (32, (.aload_n 0), 1), (33, (.getfield 68), 3), (36, (.iconst (1)), 1), (37, .isub, 1), (38, .iaload, 1), (39, .iastore, 1), (40, (.aload_n 0), 1), (41, (.getfield 27), 3), (44, (.iload_n 1), 1), (45, (.iconst (-1)), 1), (46, .iastore, 1), (47, (.aload_n 0), 1), (48, (.getfield 30), 3), (51, (.iload_n 1), 1), (52, (.iconst (-1)), 1), (53, .iastore, 1), (54, (.aload_n 0), 1), (55, (.getfield 9), 3), (58, (.iload_n 1), 1), (59, .iaload, 1), (60, (.tableswitch (92) (9) (18) #[56, 62, 56, 74, 92, 92, 92, 92, 92, 86]), 56), (116, (.aload_n 0), 1), (117, (.iload_n 1), 1), (118, (.invokevirtual 81), 3), (121, .ireturn, 1), (122, (.aload_n 0), 1), (123, (.iload_n 1), 1), (124, (.aload_n 0), 1), (125, (.getfield 24), 3), (128, (.iload_n 1), 1), (129, .iaload, 1), (130, (.invokevirtual 84), 3), (133, .ireturn, 1), (134, (.aload_n 0), 1), (135, (.iload_n 1), 1), (136, (.aload_n 0), 1), (137, (.getfield 24), 3), (140, (.iload_n 1), 1), (141, .iaload, 1), (142, (.invokevirtual 88), 3), (145, .ireturn, 1), (146, (.aload_n 0), 1), (147, (.iload_n 1), 1), (148, (.invokevirtual 91), 3), (151, .ireturn, 1), (152, (.iconst (1)), 1), (153, .ireturn, 1)]
theorem tb_b27_ok : ∀ e ∈ tb_b27, decode prog_2_method_16_code e.1 = .ok e.2 := by
  have h : tb_b27.all (fun e => match decode prog_2_method_16_code e.1 with | .ok x => decide (x = e.2) | _ => false) = true := by decide +kernel
  exact dp_dec h
def tb_b28 : List (Nat × Instr × Nat) := [(0, (.aload_n 0), 1), (1, (.getfield 68), 3), (4, (.iconst (4)), 1), (5, (.if_icmp .ne (5)), 3), (8, (.iconst (0)), 1), (9, .ireturn, 1), (10, (.aload_n 0), 1), (11, (.getfield 42), 3), (14, (.aload_n 0), 1), (15, (.getfield 68), 3), (18, (.iload_n 1), 1), (19, .iastore, 1), (20, (.aload_n 0), 1), (21, .dup, 1), (22, (.getfield 68), 3), (25, (.iconst (1)), 1), (26, .iadd, 1), (27, (.putfield 68), 3), (30, (.iconst (1)), 1), (31, .ireturn, 1)]
theorem tb_b28_ok : ∀ e ∈ tb_b28, decode prog_2_method_17_code e.1 = .ok e.2 := by
  have h : tb_b28.all (fun e => match decode prog_2_method_17_code e.1 with | .ok x => decide (x = e.2) | _ => false) = true := by decide +kernel
  exact dp_dec h
def tb_b29 : List (Nat × Instr × Nat) := [(0, (.iload_n 2), 1), (1, (.iconst (-1)), 1), (2, (.if_icmp .eq (24)), 3), (5, (.aload_n 0), 1), (6, (.getfield 9), 3), (9, (.iload_n 2), 1), (10, .iaload, 1), (11, (.bipush (9)), 2), (13, (.if_icmp .ne (13)), 3), (16, (.aload_n 0), 1), (17, (.getfield 27), 3), (20, (.iload_n 2), 1), (21, .iaload, 1), (22, (.iconst (-1)), 1), (23, (.if_icmp .eq (5)), 3), (26, (.iconst (0)), 1), (27, .ireturn, 1), (28, (.aload_n 0), 1), (29, (.getfield 27), 3), (32, (.iload_n 2), 1), (33, (.iload_n 1), 1), (34, .iastore, 1), (35, (.iconst (1)), 1), (36, .ireturn, 1)]
theorem tb_b29_ok : ∀ e ∈ tb_b29, decode prog_2_method_18_code e.1 = .ok e.2 := by
  have h : tb_b29.all (fun e => match decode prog_2_method_18_code e.1 with | .ok x => decide (x = e.2) | _ => false) = true := by decide +kernel
  exact dp_dec h
def tb_b30 : List (Nat × Instr × Nat) := [(0, (.iload_n 2), 1), (1, (.iconst (-1)), 1), (2, (.if_icmp .ne (5)), 3), (5, (.iconst (0)), 1), (6, .ireturn, 1), (7, (.aload_n 0), 1), (8, (.getfield 30), 3), (11, (.iload_n 2), 1), (12, (.iload_n 1), 1), (13, .iastore, 1), (14, (.aload_n 0), 1), (15, .dup, 1), (16, (.getfield 68), 3), (19, (.iconst (1)), 1), (20, .isub, 1), (21, (.putfield 68), 3), (24, (.iconst (1)), 1), (25, .ireturn, 1)]
theorem tb_b30_ok : ∀ e ∈ tb_b30, decode prog_2_method_19_code e.1 = .ok e.2 := by
  have h : tb_b30.all (fun e => match decode prog_2_method_19_code e.1 with | .ok x => decide (x = e.2) | _ => false) = true := by decide +kernel
  exact dp_dec h
def tb_b31 : List (Nat × Instr × Nat) := [(0, (.aload_n 0), 1), (1, (.getfield 68), 3), (4, (.ifCond .gt (11)), 3), (7, (.aload_n 0), 1), (8, (.getfield 71), 3), (11, (.iconst (4)), 1), (12, (.if_icmp .ne (5)), 3), (15, (.iconst (0)), 1), (16, .ireturn, 1), (17, (.aload_n 0), 1), (18, (.getfield 39), 3), (21, (.aload_n 0), 1), (22, (.getfield 71), 3), (25, (.iconst (1)), 1), (26, .isub, 1), (27, (.iload_n 1), 1), (28, .iastore, 1), (29, (.aload_n 0), 1), (30, (.getfield 36), 3), (33, (.aload_n 0), 1), (34, (.getfield 71), 3), (37, (.iload_n 1), 1), (38, (.iconst (1)), 1), (39, .iadd, 1), (40, .iastore, 1), (41, (.aload_n 0), 1), (42, .dup, 1), (43, (.getfield 71), 3), (46, (.iconst (1)), 1), (47, .iadd, 1), (48, (.putfield 71), 3), (51, (.iconst (1)), 1), (52, .ireturn, 1)]
theorem tb_b31_ok : ∀ e ∈ tb_b31, decode prog_2_method_20_code e.1 = .ok e.2 := by
  have h : tb_b31.all (fun e => match decode prog_2_method_20_code e.1 with | .ok x => decide (x = e.2) | _ => false) = true := by decide +kernel
  exact dp_dec h
def tb_b32 : List (Nat × Instr × Nat) := [(0, (.iconst (0)), 1), (1, (.istore_n 1), 1), (2, (.iload_n 1), 1), (3, (.aload_n 0), 1), (4, (.getfield 45), 3), (7, (.if_icmp .ge (31)), 3), (10, (.aload_n 0), 1), (11, (.iload_n 1), 1), (12, (.invokevirtual 94), 3), (15, (.ifCond .eq (17)), 3), (18, (.aload_n 0), 1), (19, (.iload_n 1), 1), (20, (.invokevirtual 97), 3), (23, (.aload_n 0), 1), (24, (.getfield 71), 3), (27, (.if_icmp .lt (5)), 3), (30, (.iload_n 1), 1), (31, .ireturn, 1), (32, (.iinc 1 (1)), 3), (35, (.goto (-33)), 3), (38, (.iconst (-1)), 1), (39, .ireturn, 1)]
theorem tb_b32_ok : ∀ e ∈ tb_b32, decode prog_2_method_21_code e.1 = .ok e.2 := by
  have h : tb_b32.all (fun e => match decode prog_2_method_21_code e.1 with | .ok x => decide (x = e.2) | _ => false) = true := by decide +kernel
  exact dp_dec h
def tb_b33 : List (Nat × Instr × Nat) := [(0, (.iload_n 1), 1), (1, (.ifCond .lt (37)), 3), (4, (.iload_n 1), 1), (5, (.aload_n 0), 1), (6, (.getfield 45), 3), (9, (.if_icmp .ge (29)), 3), (12, (.aload_n 0), 1), (13, (.getfield 9), 3), (16, (.iload_n 1), 1), (17, .iaload, 1), (18, (.bipush (13)), 2), (20, (.if_icmp .lt (18)), 3), (23, (.aload_n 0), 1), (24, (.getfield 9), 3), (27, (.iload_n 1), 1), (28, .iaload, 1), (29, (.bipush (16)), 2), (31, (.if_icmp .gt (7)), 3), (34, (.iconst (1)), 1), (35, (.goto (4)), 3), (38, (.iconst (0)), 1), (39, .ireturn, 1)]
theorem tb_b33_ok : ∀ e ∈ tb_b33, decode prog_2_method_12_code e.1 = .ok e.2 := by
  have h : tb_b33.all (fun e => match decode prog_2_method_12_code e.1 with | .ok x => decide (x = e.2) | _ => false) = true := by decide +kernel
  exact dp_dec h
def tb_b34 : List (Nat × Instr × Nat) := [(0, (.aload_n 0), 1), (1, (.getfield 9), 3), (4, (.iload_n 1), 1), (5, .iaload, 1), (6, (.bipush (13)), 2), (8, .isub, 1), (9, .ireturn, 1)]
theorem tb_b34_ok : ∀ e ∈ tb_b34, decode prog_2_method_13_code e.1 = .ok e.2 := by
  have h : tb_b34.all (fun e => match decode prog_2_method_13_code e.1 with | .ok x => decide (x = e.2) | _ => false) = true := by decide +kernel
  exact dp_dec h
