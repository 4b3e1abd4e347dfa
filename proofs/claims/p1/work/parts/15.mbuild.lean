theorem td_146_0 : decode prog_12_method_7_code 0 = .ok ((.aload_n 0), 1) := tb_b146_ok (0, (.aload_n 0), 1) (List.mem_of_getElem? (i := 0) rfl)
theorem td_146_1 : decode prog_12_method_7_code 1 = .ok ((.getfield 100), 3) := tb_b146_ok (1, (.getfield 100), 3) (List.mem_of_getElem? (i := 1) rfl)
theorem td_146_4 : decode prog_12_method_7_code 4 = .ok ((.ifCond .eq (6)), 3) := tb_b146_ok (4, (.ifCond .eq (6)), 3) (List.mem_of_getElem? (i := 2) rfl)
theorem td_146_7 : decode prog_12_method_7_code 7 = .ok ((.bipush (-2)), 2) := tb_b146_ok (7, (.bipush (-2)), 2) (List.mem_of_getElem? (i := 3) rfl)
theorem td_146_9 : decode prog_12_method_7_code 9 = .ok (.ireturn, 1) := tb_b146_ok (9, .ireturn, 1) (List.mem_of_getElem? (i := 4) rfl)
theorem td_146_10 : decode prog_12_method_7_code 10 = .ok ((.aload_n 0), 1) := tb_b146_ok (10, (.aload_n 0), 1) (List.mem_of_getElem? (i := 5) rfl)
theorem td_146_11 : decode prog_12_method_7_code 11 = .ok ((.invokevirtual 120), 3) := tb_b146_ok (11, (.invokevirtual 120), 3) (List.mem_of_getElem? (i := 6) rfl)
theorem td_146_14 : decode prog_12_method_7_code 14 = .ok ((.istore_n 1), 1) := tb_b146_ok (14, (.istore_n 1), 1) (List.mem_of_getElem? (i := 7) rfl)
theorem td_146_15 : decode prog_12_method_7_code 15 = .ok ((.iconst (0)), 1) := tb_b146_ok (15, (.iconst (0)), 1) (List.mem_of_getElem? (i := 8) rfl)
theorem td_146_16 : decode prog_12_method_7_code 16 = .ok ((.istore_n 2), 1) := tb_b146_ok (16, (.istore_n 2), 1) (List.mem_of_getElem? (i := 9) rfl)
theorem td_146_17 : decode prog_12_method_7_code 17 = .ok ((.iload_n 2), 1) := tb_b146_ok (17, (.iload_n 2), 1) (List.mem_of_getElem? (i := 10) rfl)
theorem td_146_18 : decode prog_12_method_7_code 18 = .ok ((.aload_n 0), 1) := tb_b146_ok (18, (.aload_n 0), 1) (List.mem_of_getElem? (i := 11) rfl)
theorem td_146_19 : decode prog_12_method_7_code 19 = .ok ((.getfield 104), 3) := tb_b146_ok (19, (.getfield 104), 3) (List.mem_of_getElem? (i := 12) rfl)
theorem td_146_22 : decode prog_12_method_7_code 22 = .ok ((.if_icmp .ge (43)), 3) := tb_b146_ok (22, (.if_icmp .ge (43)), 3) (List.mem_of_getElem? (i := 13) rfl)
theorem td_146_25 : decode prog_12_method_7_code 25 = .ok ((.iload_n 1), 1) := tb_b146_ok (25, (.iload_n 1), 1) (List.mem_of_getElem? (i := 14) rfl)
theorem td_146_26 : decode prog_12_method_7_code 26 = .ok ((.ifCond .ge (39)), 3) := tb_b146_ok (26, (.ifCond .ge (39)), 3) (List.mem_of_getElem? (i := 15) rfl)
theorem td_146_29 : decode prog_12_method_7_code 29 = .ok ((.aload_n 0), 1) := tb_b146_ok (29, (.aload_n 0), 1) (List.mem_of_getElem? (i := 16) rfl)
theorem td_146_30 : decode prog_12_method_7_code 30 = .ok ((.iload_n 2), 1) := tb_b146_ok (30, (.iload_n 2), 1) (List.mem_of_getElem? (i := 17) rfl)
theorem td_146_31 : decode prog_12_method_7_code 31 = .ok ((.invokevirtual 124), 3) := tb_b146_ok (31, (.invokevirtual 124), 3) (List.mem_of_getElem? (i := 18) rfl)
theorem td_146_34 : decode prog_12_method_7_code 34 = .ok ((.ifCond .eq (23)), 3) := tb_b146_ok (34, (.ifCond .eq (23)), 3) (List.mem_of_getElem? (i := 19) rfl)
theorem td_146_37 : decode prog_12_method_7_code 37 = .ok ((.aload_n 0), 1) := tb_b146_ok (37, (.aload_n 0), 1) (List.mem_of_getElem? (i := 20) rfl)
theorem td_146_38 : decode prog_12_method_7_code 38 = .ok ((.getfield 7), 3) := tb_b146_ok (38, (.getfield 7), 3) (List.mem_of_getElem? (i := 21) rfl)
theorem td_146_41 : decode prog_12_method_7_code 41 = .ok ((.iload_n 2), 1) := tb_b146_ok (41, (.iload_n 2), 1) (List.mem_of_getElem? (i := 22) rfl)
theorem td_146_42 : decode prog_12_method_7_code 42 = .ok (.iaload, 1) := tb_b146_ok (42, .iaload, 1) (List.mem_of_getElem? (i := 23) rfl)
theorem td_146_43 : decode prog_12_method_7_code 43 = .ok ((.bipush (13)), 2) := tb_b146_ok (43, (.bipush (13)), 2) (List.mem_of_getElem? (i := 24) rfl)
theorem td_146_45 : decode prog_12_method_7_code 45 = .ok (.isub, 1) := tb_b146_ok (45, .isub, 1) (List.mem_of_getElem? (i := 25) rfl)
theorem td_146_46 : decode prog_12_method_7_code 46 = .ok ((.aload_n 0), 1) := tb_b146_ok (46, (.aload_n 0), 1) (List.mem_of_getElem? (i := 26) rfl)
theorem td_146_47 : decode prog_12_method_7_code 47 = .ok ((.getfield 117), 3) := tb_b146_ok (47, (.getfield 117), 3) (List.mem_of_getElem? (i := 27) rfl)
theorem td_146_50 : decode prog_12_method_7_code 50 = .ok ((.if_icmp .lt (7)), 3) := tb_b146_ok (50, (.if_icmp .lt (7)), 3) (List.mem_of_getElem? (i := 28) rfl)
theorem td_146_53 : decode prog_12_method_7_code 53 = .ok ((.iload_n 2), 1) := tb_b146_ok (53, (.iload_n 2), 1) (List.mem_of_getElem? (i := 29) rfl)
theorem td_146_54 : decode prog_12_method_7_code 54 = .ok ((.goto (4)), 3) := tb_b146_ok (54, (.goto (4)), 3) (List.mem_of_getElem? (i := 30) rfl)
theorem td_146_57 : decode prog_12_method_7_code 57 = .ok ((.iload_n 1), 1) := tb_b146_ok (57, (.iload_n 1), 1) (List.mem_of_getElem? (i := 31) rfl)
theorem td_146_58 : decode prog_12_method_7_code 58 = .ok ((.istore_n 1), 1) := tb_b146_ok (58, (.istore_n 1), 1) (List.mem_of_getElem? (i := 32) rfl)
theorem td_146_59 : decode prog_12_method_7_code 59 = .ok ((.iinc 2 (1)), 3) := tb_b146_ok (59, (.iinc 2 (1)), 3) (List.mem_of_getElem? (i := 33) rfl)
theorem td_146_62 : decode prog_12_method_7_code 62 = .ok ((.goto (-45)), 3) := tb_b146_ok (62, (.goto (-45)), 3) (List.mem_of_getElem? (i := 34) rfl)
theorem td_146_65 : decode prog_12_method_7_code 65 = .ok ((.iload_n 1), 1) := tb_b146_ok (65, (.iload_n 1), 1) (List.mem_of_getElem? (i := 35) rfl)
theorem td_146_66 : decode prog_12_method_7_code 66 = .ok ((.ifCond .lt (8)), 3) := tb_b146_ok (66, (.ifCond .lt (8)), 3) (List.mem_of_getElem? (i := 36) rfl)
theorem td_146_69 : decode prog_12_method_7_code 69 = .ok ((.bipush (-3)), 2) := tb_b146_ok (69, (.bipush (-3)), 2) (List.mem_of_getElem? (i := 37) rfl)
theorem td_146_71 : decode prog_12_method_7_code 71 = .ok ((.iload_n 1), 1) := tb_b146_ok (71, (.iload_n 1), 1) (List.mem_of_getElem? (i := 38) rfl)
theorem td_146_72 : decode prog_12_method_7_code 72 = .ok (.isub, 1) := tb_b146_ok (72, .isub, 1) (List.mem_of_getElem? (i := 39) rfl)
theorem td_146_73 : decode prog_12_method_7_code 73 = .ok (.ireturn, 1) := tb_b146_ok (73, .ireturn, 1) (List.mem_of_getElem? (i := 40) rfl)
theorem td_146_74 : decode prog_12_method_7_code 74 = .ok ((.aload_n 0), 1) := tb_b146_ok (74, (.aload_n 0), 1) (List.mem_of_getElem? (i := 41) rfl)
theorem td_146_75 : decode prog_12_method_7_code 75 = .ok ((.iconst (1)), 1) := tb_b146_ok (75, (.iconst (1)), 1) (List.mem_of_getElem? (i := 42) rfl)
theorem td_146_76 : decode prog_12_method_7_code 76 = .ok ((.putfield 100), 3) := tb_b146_ok (76, (.putfield 100), 3) (List.mem_of_getElem? (i := 43) rfl)
theorem td_146_79 : decode prog_12_method_7_code 79 = .ok ((.aload_n 0), 1) := tb_b146_ok (79, (.aload_n 0), 1) (List.mem_of_getElem? (i := 44) rfl)
theorem td_146_80 : decode prog_12_method_7_code 80 = .ok ((.invokevirtual 127), 3) := tb_b146_ok (80, (.invokevirtual 127), 3) (List.mem_of_getElem? (i := 45) rfl)
theorem td_146_83 : decode prog_12_method_7_code 83 = .ok ((.aload_n 0), 1) := tb_b146_ok (83, (.aload_n 0), 1) (List.mem_of_getElem? (i := 46) rfl)
theorem td_146_84 : decode prog_12_method_7_code 84 = .ok ((.invokevirtual 130), 3) := tb_b146_ok (84, (.invokevirtual 130), 3) (List.mem_of_getElem? (i := 47) rfl)
theorem td_146_87 : decode prog_12_method_7_code 87 = .ok ((.iconst (0)), 1) := tb_b146_ok (87, (.iconst (0)), 1) (List.mem_of_getElem? (i := 48) rfl)
theorem td_146_88 : decode prog_12_method_7_code 88 = .ok (.ireturn, 1) := tb_b146_ok (88, .ireturn, 1) (List.mem_of_getElem? (i := 49) rfl)
theorem td_152_0 : decode prog_12_method_29_code 0 = .ok ((.iconst (0)), 1) := tb_b152_ok (0, (.iconst (0)), 1) (List.mem_of_getElem? (i := 0) rfl)
theorem td_152_1 : decode prog_12_method_29_code 1 = .ok ((.istore_n 1), 1) := tb_b152_ok (1, (.istore_n 1), 1) (List.mem_of_getElem? (i := 1) rfl)
theorem td_152_2 : decode prog_12_method_29_code 2 = .ok ((.iload_n 1), 1) := tb_b152_ok (2, (.iload_n 1), 1) (List.mem_of_getElem? (i := 2) rfl)
theorem td_152_3 : decode prog_12_method_29_code 3 = .ok ((.sipush (1008)), 3) := tb_b152_ok (3, (.sipush (1008)), 3) (List.mem_of_getElem? (i := 3) rfl)
theorem td_152_6 : decode prog_12_method_29_code 6 = .ok ((.if_icmp .ge (30)), 3) := tb_b152_ok (6, (.if_icmp .ge (30)), 3) (List.mem_of_getElem? (i := 4) rfl)
theorem td_152_9 : decode prog_12_method_29_code 9 = .ok ((.aload_n 0), 1) := tb_b152_ok (9, (.aload_n 0), 1) (List.mem_of_getElem? (i := 5) rfl)
theorem td_152_10 : decode prog_12_method_29_code 10 = .ok ((.getfield 50), 3) := tb_b152_ok (10, (.getfield 50), 3) (List.mem_of_getElem? (i := 6) rfl)
theorem td_152_13 : decode prog_12_method_29_code 13 = .ok ((.iload_n 1), 1) := tb_b152_ok (13, (.iload_n 1), 1) (List.mem_of_getElem? (i := 7) rfl)
theorem td_152_14 : decode prog_12_method_29_code 14 = .ok ((.lconst 0), 1) := tb_b152_ok (14, (.lconst 0), 1) (List.mem_of_getElem? (i := 8) rfl)
theorem td_152_15 : decode prog_12_method_29_code 15 = .ok (.lastore, 1) := tb_b152_ok (15, .lastore, 1) (List.mem_of_getElem? (i := 9) rfl)
theorem td_152_16 : decode prog_12_method_29_code 16 = .ok ((.aload_n 0), 1) := tb_b152_ok (16, (.aload_n 0), 1) (List.mem_of_getElem? (i := 10) rfl)
theorem td_152_17 : decode prog_12_method_29_code 17 = .ok ((.getfield 53), 3) := tb_b152_ok (17, (.getfield 53), 3) (List.mem_of_getElem? (i := 11) rfl)
theorem td_152_20 : decode prog_12_method_29_code 20 = .ok ((.iload_n 1), 1) := tb_b152_ok (20, (.iload_n 1), 1) (List.mem_of_getElem? (i := 12) rfl)
theorem td_152_21 : decode prog_12_method_29_code 21 = .ok ((.lconst 0), 1) := tb_b152_ok (21, (.lconst 0), 1) (List.mem_of_getElem? (i := 13) rfl)
theorem td_152_22 : decode prog_12_method_29_code 22 = .ok (.lastore, 1) := tb_b152_ok (22, .lastore, 1) (List.mem_of_getElem? (i := 14) rfl)
theorem td_152_23 : decode prog_12_method_29_code 23 = .ok ((.aload_n 0), 1) := tb_b152_ok (23, (.aload_n 0), 1) (List.mem_of_getElem? (i := 15) rfl)
theorem td_152_24 : decode prog_12_method_29_code 24 = .ok ((.getfield 56), 3) := tb_b152_ok (24, (.getfield 56), 3) (List.mem_of_getElem? (i := 16) rfl)
theorem td_152_27 : decode prog_12_method_29_code 27 = .ok ((.iload_n 1), 1) := tb_b152_ok (27, (.iload_n 1), 1) (List.mem_of_getElem? (i := 17) rfl)
theorem td_152_28 : decode prog_12_method_29_code 28 = .ok ((.lconst 0), 1) := tb_b152_ok (28, (.lconst 0), 1) (List.mem_of_getElem? (i := 18) rfl)
theorem td_152_29 : decode prog_12_method_29_code 29 = .ok (.lastore, 1) := tb_b152_ok (29, .lastore, 1) (List.mem_of_getElem? (i := 19) rfl)
theorem td_152_30 : decode prog_12_method_29_code 30 = .ok ((.iinc 1 (1)), 3) := tb_b152_ok (30, (.iinc 1 (1)), 3) (List.mem_of_getElem? (i := 20) rfl)
theorem td_152_33 : decode prog_12_method_29_code 33 = .ok ((.goto (-31)), 3) := tb_b152_ok (33, (.goto (-31)), 3) (List.mem_of_getElem? (i := 21) rfl)
theorem td_152_36 : decode prog_12_method_29_code 36 = .ok ((.iconst (0)), 1) := tb_b152_ok (36, (.iconst (0)), 1) (List.mem_of_getElem? (i := 22) rfl)
theorem td_152_37 : decode prog_12_method_29_code 37 = .ok ((.istore_n 1), 1) := tb_b152_ok (37, (.istore_n 1), 1) (List.mem_of_getElem? (i := 23) rfl)
theorem td_152_38 : decode prog_12_method_29_code 38 = .ok ((.iload_n 1), 1) := tb_b152_ok (38, (.iload_n 1), 1) (List.mem_of_getElem? (i := 24) rfl)
theorem td_152_39 : decode prog_12_method_29_code 39 = .ok ((.sipush (252)), 3) := tb_b152_ok (39, (.sipush (252)), 3) (List.mem_of_getElem? (i := 25) rfl)
theorem td_152_42 : decode prog_12_method_29_code 42 = .ok ((.if_icmp .ge (42)), 3) := tb_b152_ok (42, (.if_icmp .ge (42)), 3) (List.mem_of_getElem? (i := 26) rfl)
theorem td_152_45 : decode prog_12_method_29_code 45 = .ok ((.iconst (0)), 1) := tb_b152_ok (45, (.iconst (0)), 1) (List.mem_of_getElem? (i := 27) rfl)
theorem td_152_46 : decode prog_12_method_29_code 46 = .ok ((.istore_n 2), 1) := tb_b152_ok (46, (.istore_n 2), 1) (List.mem_of_getElem? (i := 28) rfl)
theorem td_152_47 : decode prog_12_method_29_code 47 = .ok ((.iload_n 2), 1) := tb_b152_ok (47, (.iload_n 2), 1) (List.mem_of_getElem? (i := 29) rfl)
theorem td_152_48 : decode prog_12_method_29_code 48 = .ok ((.sipush (252)), 3) := tb_b152_ok (48, (.sipush (252)), 3) (List.mem_of_getElem? (i := 30) rfl)
theorem td_152_51 : decode prog_12_method_29_code 51 = .ok ((.if_icmp .ge (27)), 3) := tb_b152_ok (51, (.if_icmp .ge (27)), 3) (List.mem_of_getElem? (i := 31) rfl)
theorem td_152_54 : decode prog_12_method_29_code 54 = .ok ((.aload_n 0), 1) := tb_b152_ok (54, (.aload_n 0), 1) (List.mem_of_getElem? (i := 32) rfl)
theorem td_152_55 : decode prog_12_method_29_code 55 = .ok ((.iload_n 1), 1) := tb_b152_ok (55, (.iload_n 1), 1) (List.mem_of_getElem? (i := 33) rfl)
theorem td_152_56 : decode prog_12_method_29_code 56 = .ok ((.iload_n 2), 1) := tb_b152_ok (56, (.iload_n 2), 1) (List.mem_of_getElem? (i := 34) rfl)
theorem td_152_57 : decode prog_12_method_29_code 57 = .ok ((.invokevirtual 188), 3) := tb_b152_ok (57, (.invokevirtual 188), 3) (List.mem_of_getElem? (i := 35) rfl)
theorem td_152_60 : decode prog_12_method_29_code 60 = .ok ((.ifCond .eq (12)), 3) := tb_b152_ok (60, (.ifCond .eq (12)), 3) (List.mem_of_getElem? (i := 36) rfl)
theorem td_152_63 : decode prog_12_method_29_code 63 = .ok ((.aload_n 0), 1) := tb_b152_ok (63, (.aload_n 0), 1) (List.mem_of_getElem? (i := 37) rfl)
theorem td_152_64 : decode prog_12_method_29_code 64 = .ok ((.getfield 50), 3) := tb_b152_ok (64, (.getfield 50), 3) (List.mem_of_getElem? (i := 38) rfl)
theorem td_152_67 : decode prog_12_method_29_code 67 = .ok ((.iload_n 1), 1) := tb_b152_ok (67, (.iload_n 1), 1) (List.mem_of_getElem? (i := 39) rfl)
theorem td_152_68 : decode prog_12_method_29_code 68 = .ok ((.iload_n 2), 1) := tb_b152_ok (68, (.iload_n 2), 1) (List.mem_of_getElem? (i := 40) rfl)
theorem td_152_69 : decode prog_12_method_29_code 69 = .ok ((.invokestatic 191), 3) := tb_b152_ok (69, (.invokestatic 191), 3) (List.mem_of_getElem? (i := 41) rfl)
theorem td_152_72 : decode prog_12_method_29_code 72 = .ok ((.iinc 2 (1)), 3) := tb_b152_ok (72, (.iinc 2 (1)), 3) (List.mem_of_getElem? (i := 42) rfl)
theorem td_152_75 : decode prog_12_method_29_code 75 = .ok ((.goto (-28)), 3) := tb_b152_ok (75, (.goto (-28)), 3) (List.mem_of_getElem? (i := 43) rfl)
theorem td_152_78 : decode prog_12_method_29_code 78 = .ok ((.iinc 1 (1)), 3) := tb_b152_ok (78, (.iinc 1 (1)), 3) (List.mem_of_getElem? (i := 44) rfl)
theorem td_152_81 : decode prog_12_method_29_code 81 = .ok ((.goto (-43)), 3) := tb_b152_ok (81, (.goto (-43)), 3) (List.mem_of_getElem? (i := 45) rfl)
theorem td_152_84 : decode prog_12_method_29_code 84 = .ok ((.iconst (0)), 1) := tb_b152_ok (84, (.iconst (0)), 1) (List.mem_of_getElem? (i := 46) rfl)
theorem td_152_85 : decode prog_12_method_29_code 85 = .ok ((.istore_n 1), 1) := tb_b152_ok (85, (.istore_n 1), 1) (List.mem_of_getElem? (i := 47) rfl)
theorem td_152_86 : decode prog_12_method_29_code 86 = .ok ((.iload_n 1), 1) := tb_b152_ok (86, (.iload_n 1), 1) (List.mem_of_getElem? (i := 48) rfl)
theorem td_152_87 : decode prog_12_method_29_code 87 = .ok ((.aload_n 0), 1) := tb_b152_ok (87, (.aload_n 0), 1) (List.mem_of_getElem? (i := 49) rfl)
theorem td_152_88 : decode prog_12_method_29_code 88 = .ok ((.getfield 104), 3) := tb_b152_ok (88, (.getfield 104), 3) (List.mem_of_getElem? (i := 50) rfl)
theorem td_152_91 : decode prog_12_method_29_code 91 = .ok ((.if_icmp .ge (100)), 3) := tb_b152_ok (91, (.if_icmp .ge (100)), 3) (List.mem_of_getElem? (i := 51) rfl)
theorem td_152_94 : decode prog_12_method_29_code 94 = .ok ((.aload_n 0), 1) := tb_b152_ok (94, (.aload_n 0), 1) (List.mem_of_getElem? (i := 52) rfl)
theorem td_152_95 : decode prog_12_method_29_code 95 = .ok ((.iload_n 1), 1) := tb_b152_ok (95, (.iload_n 1), 1) (List.mem_of_getElem? (i := 53) rfl)
theorem td_152_96 : decode prog_12_method_29_code 96 = .ok ((.invokevirtual 124), 3) := tb_b152_ok (96, (.invokevirtual 124), 3) (List.mem_of_getElem? (i := 54) rfl)
theorem td_152_99 : decode prog_12_method_29_code 99 = .ok ((.ifCond .eq (86)), 3) := tb_b152_ok (99, (.ifCond .eq (86)), 3) (List.mem_of_getElem? (i := 55) rfl)
theorem td_152_102 : decode prog_12_method_29_code 102 = .ok ((.sipush (224)), 3) := tb_b152_ok (102, (.sipush (224)), 3) (List.mem_of_getElem? (i := 56) rfl)
theorem td_152_105 : decode prog_12_method_29_code 105 = .ok ((.bipush (7)), 2) := tb_b152_ok (105, (.bipush (7)), 2) (List.mem_of_getElem? (i := 57) rfl)
theorem td_152_107 : decode prog_12_method_29_code 107 = .ok ((.aload_n 0), 1) := tb_b152_ok (107, (.aload_n 0), 1) (List.mem_of_getElem? (i := 58) rfl)
theorem td_152_108 : decode prog_12_method_29_code 108 = .ok ((.getfield 7), 3) := tb_b152_ok (108, (.getfield 7), 3) (List.mem_of_getElem? (i := 59) rfl)
theorem td_152_111 : decode prog_12_method_29_code 111 = .ok ((.iload_n 1), 1) := tb_b152_ok (111, (.iload_n 1), 1) (List.mem_of_getElem? (i := 60) rfl)
theorem td_152_112 : decode prog_12_method_29_code 112 = .ok (.iaload, 1) := tb_b152_ok (112, .iaload, 1) (List.mem_of_getElem? (i := 61) rfl)
theorem td_152_113 : decode prog_12_method_29_code 113 = .ok ((.bipush (13)), 2) := tb_b152_ok (113, (.bipush (13)), 2) (List.mem_of_getElem? (i := 62) rfl)
theorem td_152_115 : decode prog_12_method_29_code 115 = .ok (.isub, 1) := tb_b152_ok (115, .isub, 1) (List.mem_of_getElem? (i := 63) rfl)
theorem td_152_116 : decode prog_12_method_29_code 116 = .ok (.imul, 1) := tb_b152_ok (116, .imul, 1) (List.mem_of_getElem? (i := 64) rfl)
theorem td_152_117 : decode prog_12_method_29_code 117 = .ok (.iadd, 1) := tb_b152_ok (117, .iadd, 1) (List.mem_of_getElem? (i := 65) rfl)
theorem td_152_118 : decode prog_12_method_29_code 118 = .ok ((.istore_n 2), 1) := tb_b152_ok (118, (.istore_n 2), 1) (List.mem_of_getElem? (i := 66) rfl)
theorem td_152_119 : decode prog_12_method_29_code 119 = .ok ((.aload_n 0), 1) := tb_b152_ok (119, (.aload_n 0), 1) (List.mem_of_getElem? (i := 67) rfl)
theorem td_152_120 : decode prog_12_method_29_code 120 = .ok ((.getfield 53), 3) := tb_b152_ok (120, (.getfield 53), 3) (List.mem_of_getElem? (i := 68) rfl)
theorem td_152_123 : decode prog_12_method_29_code 123 = .ok ((.iload_n 2), 1) := tb_b152_ok (123, (.iload_n 2), 1) (List.mem_of_getElem? (i := 69) rfl)
theorem td_152_124 : decode prog_12_method_29_code 124 = .ok ((.iload_n 1), 1) := tb_b152_ok (124, (.iload_n 1), 1) (List.mem_of_getElem? (i := 70) rfl)
theorem td_152_125 : decode prog_12_method_29_code 125 = .ok ((.invokestatic 191), 3) := tb_b152_ok (125, (.invokestatic 191), 3) (List.mem_of_getElem? (i := 71) rfl)
theorem td_152_128 : decode prog_12_method_29_code 128 = .ok ((.iconst (0)), 1) := tb_b152_ok (128, (.iconst (0)), 1) (List.mem_of_getElem? (i := 72) rfl)
theorem td_152_129 : decode prog_12_method_29_code 129 = .ok ((.istore_n 3), 1) := tb_b152_ok (129, (.istore_n 3), 1) (List.mem_of_getElem? (i := 73) rfl)
theorem td_152_130 : decode prog_12_method_29_code 130 = .ok ((.iload_n 3), 1) := tb_b152_ok (130, (.iload_n 3), 1) (List.mem_of_getElem? (i := 74) rfl)
theorem td_152_131 : decode prog_12_method_29_code 131 = .ok ((.iconst (3)), 1) := tb_b152_ok (131, (.iconst (3)), 1) (List.mem_of_getElem? (i := 75) rfl)
theorem td_152_132 : decode prog_12_method_29_code 132 = .ok ((.if_icmp .ge (53)), 3) := tb_b152_ok (132, (.if_icmp .ge (53)), 3) (List.mem_of_getElem? (i := 76) rfl)
theorem td_152_135 : decode prog_12_method_29_code 135 = .ok ((.aload_n 0), 1) := tb_b152_ok (135, (.aload_n 0), 1) (List.mem_of_getElem? (i := 77) rfl)
theorem td_152_136 : decode prog_12_method_29_code 136 = .ok ((.getfield 53), 3) := tb_b152_ok (136, (.getfield 53), 3) (List.mem_of_getElem? (i := 78) rfl)
theorem td_152_139 : decode prog_12_method_29_code 139 = .ok ((.iload_n 2), 1) := tb_b152_ok (139, (.iload_n 2), 1) (List.mem_of_getElem? (i := 79) rfl)
theorem td_152_140 : decode prog_12_method_29_code 140 = .ok ((.iconst (1)), 1) := tb_b152_ok (140, (.iconst (1)), 1) (List.mem_of_getElem? (i := 80) rfl)
theorem td_152_141 : decode prog_12_method_29_code 141 = .ok (.iadd, 1) := tb_b152_ok (141, .iadd, 1) (List.mem_of_getElem? (i := 81) rfl)
theorem td_152_142 : decode prog_12_method_29_code 142 = .ok ((.iload_n 3), 1) := tb_b152_ok (142, (.iload_n 3), 1) (List.mem_of_getElem? (i := 82) rfl)
theorem td_152_143 : decode prog_12_method_29_code 143 = .ok (.iadd, 1) := tb_b152_ok (143, .iadd, 1) (List.mem_of_getElem? (i := 83) rfl)
theorem td_152_144 : decode prog_12_method_29_code 144 = .ok ((.bipush (32)), 2) := tb_b152_ok (144, (.bipush (32)), 2) (List.mem_of_getElem? (i := 84) rfl)
theorem td_152_146 : decode prog_12_method_29_code 146 = .ok ((.bipush (6)), 2) := tb_b152_ok (146, (.bipush (6)), 2) (List.mem_of_getElem? (i := 85) rfl)
theorem td_152_148 : decode prog_12_method_29_code 148 = .ok ((.iload_n 1), 1) := tb_b152_ok (148, (.iload_n 1), 1) (List.mem_of_getElem? (i := 86) rfl)
theorem td_152_149 : decode prog_12_method_29_code 149 = .ok (.imul, 1) := tb_b152_ok (149, .imul, 1) (List.mem_of_getElem? (i := 87) rfl)
theorem td_152_150 : decode prog_12_method_29_code 150 = .ok (.iadd, 1) := tb_b152_ok (150, .iadd, 1) (List.mem_of_getElem? (i := 88) rfl)
theorem td_152_151 : decode prog_12_method_29_code 151 = .ok ((.iload_n 3), 1) := tb_b152_ok (151, (.iload_n 3), 1) (List.mem_of_getElem? (i := 89) rfl)
theorem td_152_152 : decode prog_12_method_29_code 152 = .ok (.iadd, 1) := tb_b152_ok (152, .iadd, 1) (List.mem_of_getElem? (i := 90) rfl)
theorem td_152_153 : decode prog_12_method_29_code 153 = .ok ((.invokestatic 191), 3) := tb_b152_ok (153, (.invokestatic 191), 3) (List.mem_of_getElem? (i := 91) rfl)
theorem td_152_156 : decode prog_12_method_29_code 156 = .ok ((.aload_n 0), 1) := tb_b152_ok (156, (.aload_n 0), 1) (List.mem_of_getElem? (i := 92) rfl)
theorem td_152_157 : decode prog_12_method_29_code 157 = .ok ((.getfield 56), 3) := tb_b152_ok (157, (.getfield 56), 3) (List.mem_of_getElem? (i := 93) rfl)
theorem td_152_160 : decode prog_12_method_29_code 160 = .ok ((.bipush (32)), 2) := tb_b152_ok (160, (.bipush (32)), 2) (List.mem_of_getElem? (i := 94) rfl)
theorem td_152_162 : decode prog_12_method_29_code 162 = .ok ((.bipush (6)), 2) := tb_b152_ok (162, (.bipush (6)), 2) (List.mem_of_getElem? (i := 95) rfl)
theorem td_152_164 : decode prog_12_method_29_code 164 = .ok ((.iload_n 1), 1) := tb_b152_ok (164, (.iload_n 1), 1) (List.mem_of_getElem? (i := 96) rfl)
theorem td_152_165 : decode prog_12_method_29_code 165 = .ok (.imul, 1) := tb_b152_ok (165, .imul, 1) (List.mem_of_getElem? (i := 97) rfl)
theorem td_152_166 : decode prog_12_method_29_code 166 = .ok (.iadd, 1) := tb_b152_ok (166, .iadd, 1) (List.mem_of_getElem? (i := 98) rfl)
theorem td_152_167 : decode prog_12_method_29_code 167 = .ok ((.iconst (3)), 1) := tb_b152_ok (167, (.iconst (3)), 1) (List.mem_of_getElem? (i := 99) rfl)
theorem td_152_168 : decode prog_12_method_29_code 168 = .ok (.iadd, 1) := tb_b152_ok (168, .iadd, 1) (List.mem_of_getElem? (i := 100) rfl)
theorem td_152_169 : decode prog_12_method_29_code 169 = .ok ((.iload_n 3), 1) := tb_b152_ok (169, (.iload_n 3), 1) (List.mem_of_getElem? (i := 101) rfl)
theorem td_152_170 : decode prog_12_method_29_code 170 = .ok (.iadd, 1) := tb_b152_ok (170, .iadd, 1) (List.mem_of_getElem? (i := 102) rfl)
theorem td_152_171 : decode prog_12_method_29_code 171 = .ok ((.iload_n 2), 1) := tb_b152_ok (171, (.iload_n 2), 1) (List.mem_of_getElem? (i := 103) rfl)
theorem td_152_172 : decode prog_12_method_29_code 172 = .ok ((.iconst (4)), 1) := tb_b152_ok (172, (.iconst (4)), 1) (List.mem_of_getElem? (i := 104) rfl)
theorem td_152_173 : decode prog_12_method_29_code 173 = .ok (.iadd, 1) := tb_b152_ok (173, .iadd, 1) (List.mem_of_getElem? (i := 105) rfl)
theorem td_152_174 : decode prog_12_method_29_code 174 = .ok ((.iload_n 3), 1) := tb_b152_ok (174, (.iload_n 3), 1) (List.mem_of_getElem? (i := 106) rfl)
theorem td_152_175 : decode prog_12_method_29_code 175 = .ok (.iadd, 1) := tb_b152_ok (175, .iadd, 1) (List.mem_of_getElem? (i := 107) rfl)
theorem td_152_176 : decode prog_12_method_29_code 176 = .ok ((.invokestatic 191), 3) := tb_b152_ok (176, (.invokestatic 191), 3) (List.mem_of_getElem? (i := 108) rfl)
theorem td_152_179 : decode prog_12_method_29_code 179 = .ok ((.iinc 3 (1)), 3) := tb_b152_ok (179, (.iinc 3 (1)), 3) (List.mem_of_getElem? (i := 109) rfl)
theorem td_152_182 : decode prog_12_method_29_code 182 = .ok ((.goto (-52)), 3) := tb_b152_ok (182, (.goto (-52)), 3) (List.mem_of_getElem? (i := 110) rfl)
theorem td_152_185 : decode prog_12_method_29_code 185 = .ok ((.iinc 1 (1)), 3) := tb_b152_ok (185, (.iinc 1 (1)), 3) (List.mem_of_getElem? (i := 111) rfl)
theorem td_152_188 : decode prog_12_method_29_code 188 = .ok ((.goto (-102)), 3) := tb_b152_ok (188, (.goto (-102)), 3) (List.mem_of_getElem? (i := 112) rfl)
theorem td_152_191 : decode prog_12_method_29_code 191 = .ok ((.iconst (1)), 1) := tb_b152_ok (191, (.iconst (1)), 1) (List.mem_of_getElem? (i := 113) rfl)
theorem td_152_192 : decode prog_12_method_29_code 192 = .ok ((.istore_n 1), 1) := tb_b152_ok (192, (.istore_n 1), 1) (List.mem_of_getElem? (i := 114) rfl)
theorem td_152_193 : decode prog_12_method_29_code 193 = .ok ((.iconst (0)), 1) := tb_b152_ok (193, (.iconst (0)), 1) (List.mem_of_getElem? (i := 115) rfl)
theorem td_152_194 : decode prog_12_method_29_code 194 = .ok ((.istore_n 2), 1) := tb_b152_ok (194, (.istore_n 2), 1) (List.mem_of_getElem? (i := 116) rfl)
theorem td_152_195 : decode prog_12_method_29_code 195 = .ok ((.iload_n 2), 1) := tb_b152_ok (195, (.iload_n 2), 1) (List.mem_of_getElem? (i := 117) rfl)
theorem td_152_196 : decode prog_12_method_29_code 196 = .ok ((.sipush (1000)), 3) := tb_b152_ok (196, (.sipush (1000)), 3) (List.mem_of_getElem? (i := 118) rfl)
theorem td_152_199 : decode prog_12_method_29_code 199 = .ok ((.if_icmp .ge (57)), 3) := tb_b152_ok (199, (.if_icmp .ge (57)), 3) (List.mem_of_getElem? (i := 119) rfl)
theorem td_152_202 : decode prog_12_method_29_code 202 = .ok ((.iload_n 1), 1) := tb_b152_ok (202, (.iload_n 1), 1) (List.mem_of_getElem? (i := 120) rfl)
theorem td_152_203 : decode prog_12_method_29_code 203 = .ok ((.ifCond .eq (53)), 3) := tb_b152_ok (203, (.ifCond .eq (53)), 3) (List.mem_of_getElem? (i := 121) rfl)
theorem td_152_206 : decode prog_12_method_29_code 206 = .ok ((.iconst (0)), 1) := tb_b152_ok (206, (.iconst (0)), 1) (List.mem_of_getElem? (i := 122) rfl)
theorem td_152_207 : decode prog_12_method_29_code 207 = .ok ((.istore_n 1), 1) := tb_b152_ok (207, (.istore_n 1), 1) (List.mem_of_getElem? (i := 123) rfl)
theorem td_152_208 : decode prog_12_method_29_code 208 = .ok ((.iconst (0)), 1) := tb_b152_ok (208, (.iconst (0)), 1) (List.mem_of_getElem? (i := 124) rfl)
theorem td_152_209 : decode prog_12_method_29_code 209 = .ok ((.istore_n 3), 1) := tb_b152_ok (209, (.istore_n 3), 1) (List.mem_of_getElem? (i := 125) rfl)
theorem td_152_210 : decode prog_12_method_29_code 210 = .ok ((.iload_n 3), 1) := tb_b152_ok (210, (.iload_n 3), 1) (List.mem_of_getElem? (i := 126) rfl)
theorem td_152_211 : decode prog_12_method_29_code 211 = .ok ((.aload_n 0), 1) := tb_b152_ok (211, (.aload_n 0), 1) (List.mem_of_getElem? (i := 127) rfl)
theorem td_152_212 : decode prog_12_method_29_code 212 = .ok ((.getfield 104), 3) := tb_b152_ok (212, (.getfield 104), 3) (List.mem_of_getElem? (i := 128) rfl)
theorem td_152_215 : decode prog_12_method_29_code 215 = .ok ((.if_icmp .ge (35)), 3) := tb_b152_ok (215, (.if_icmp .ge (35)), 3) (List.mem_of_getElem? (i := 129) rfl)
theorem td_152_218 : decode prog_12_method_29_code 218 = .ok ((.aload_n 0), 1) := tb_b152_ok (218, (.aload_n 0), 1) (List.mem_of_getElem? (i := 130) rfl)
theorem td_152_219 : decode prog_12_method_29_code 219 = .ok ((.iload_n 3), 1) := tb_b152_ok (219, (.iload_n 3), 1) (List.mem_of_getElem? (i := 131) rfl)
theorem td_152_220 : decode prog_12_method_29_code 220 = .ok ((.invokevirtual 124), 3) := tb_b152_ok (220, (.invokevirtual 124), 3) (List.mem_of_getElem? (i := 132) rfl)
theorem td_152_223 : decode prog_12_method_29_code 223 = .ok ((.ifCond .eq (11)), 3) := tb_b152_ok (223, (.ifCond .eq (11)), 3) (List.mem_of_getElem? (i := 133) rfl)
theorem td_152_226 : decode prog_12_method_29_code 226 = .ok ((.aload_n 0), 1) := tb_b152_ok (226, (.aload_n 0), 1) (List.mem_of_getElem? (i := 134) rfl)
theorem td_152_227 : decode prog_12_method_29_code 227 = .ok ((.iload_n 3), 1) := tb_b152_ok (227, (.iload_n 3), 1) (List.mem_of_getElem? (i := 135) rfl)
theorem td_152_228 : decode prog_12_method_29_code 228 = .ok ((.invokevirtual 195), 3) := tb_b152_ok (228, (.invokevirtual 195), 3) (List.mem_of_getElem? (i := 136) rfl)
theorem td_152_231 : decode prog_12_method_29_code 231 = .ok ((.ifCond .ne (7)), 3) := tb_b152_ok (231, (.ifCond .ne (7)), 3) (List.mem_of_getElem? (i := 137) rfl)
theorem td_152_234 : decode prog_12_method_29_code 234 = .ok ((.iload_n 1), 1) := tb_b152_ok (234, (.iload_n 1), 1) (List.mem_of_getElem? (i := 138) rfl)
theorem td_152_235 : decode prog_12_method_29_code 235 = .ok ((.ifCond .eq (7)), 3) := tb_b152_ok (235, (.ifCond .eq (7)), 3) (List.mem_of_getElem? (i := 139) rfl)
theorem td_152_238 : decode prog_12_method_29_code 238 = .ok ((.iconst (1)), 1) := tb_b152_ok (238, (.iconst (1)), 1) (List.mem_of_getElem? (i := 140) rfl)
theorem td_152_239 : decode prog_12_method_29_code 239 = .ok ((.goto (4)), 3) := tb_b152_ok (239, (.goto (4)), 3) (List.mem_of_getElem? (i := 141) rfl)
theorem td_152_242 : decode prog_12_method_29_code 242 = .ok ((.iconst (0)), 1) := tb_b152_ok (242, (.iconst (0)), 1) (List.mem_of_getElem? (i := 142) rfl)
theorem td_152_243 : decode prog_12_method_29_code 243 = .ok ((.istore_n 1), 1) := tb_b152_ok (243, (.istore_n 1), 1) (List.mem_of_getElem? (i := 143) rfl)
theorem td_152_244 : decode prog_12_method_29_code 244 = .ok ((.iinc 3 (1)), 3) := tb_b152_ok (244, (.iinc 3 (1)), 3) (List.mem_of_getElem? (i := 144) rfl)
theorem td_152_247 : decode prog_12_method_29_code 247 = .ok ((.goto (-37)), 3) := tb_b152_ok (247, (.goto (-37)), 3) (List.mem_of_getElem? (i := 145) rfl)
theorem td_152_250 : decode prog_12_method_29_code 250 = .ok ((.iinc 2 (1)), 3) := tb_b152_ok (250, (.iinc 2 (1)), 3) (List.mem_of_getElem? (i := 146) rfl)
theorem td_152_253 : decode prog_12_method_29_code 253 = .ok ((.goto (-58)), 3) := tb_b152_ok (253, (.goto (-58)), 3) (List.mem_of_getElem? (i := 147) rfl)
theorem td_152_256 : decode prog_12_method_29_code 256 = .ok (.return_, 1) := tb_b152_ok (256, .return_, 1) (List.mem_of_getElem? (i := 148) rfl)
theorem td_153_0 : decode prog_12_method_26_code 0 = .ok ((.aload_n 0), 1) := tb_b153_ok (0, (.aload_n 0), 1) (List.mem_of_getElem? (i := 0) rfl)
theorem td_153_1 : decode prog_12_method_26_code 1 = .ok ((.iload_n 1), 1) := tb_b153_ok (1, (.iload_n 1), 1) (List.mem_of_getElem? (i := 1) rfl)
theorem td_153_2 : decode prog_12_method_26_code 2 = .ok ((.invokevirtual 174), 3) := tb_b153_ok (2, (.invokevirtual 174), 3) (List.mem_of_getElem? (i := 2) rfl)
theorem td_153_5 : decode prog_12_method_26_code 5 = .ok ((.ifCond .eq (24)), 3) := tb_b153_ok (5, (.ifCond .eq (24)), 3) (List.mem_of_getElem? (i := 3) rfl)
theorem td_153_8 : decode prog_12_method_26_code 8 = .ok ((.aload_n 0), 1) := tb_b153_ok (8, (.aload_n 0), 1) (List.mem_of_getElem? (i := 4) rfl)
theorem td_153_9 : decode prog_12_method_26_code 9 = .ok ((.iload_n 2), 1) := tb_b153_ok (9, (.iload_n 2), 1) (List.mem_of_getElem? (i := 5) rfl)
theorem td_153_10 : decode prog_12_method_26_code 10 = .ok ((.invokevirtual 174), 3) := tb_b153_ok (10, (.invokevirtual 174), 3) (List.mem_of_getElem? (i := 6) rfl)
theorem td_153_13 : decode prog_12_method_26_code 13 = .ok ((.ifCond .eq (16)), 3) := tb_b153_ok (13, (.ifCond .eq (16)), 3) (List.mem_of_getElem? (i := 7) rfl)
theorem td_153_16 : decode prog_12_method_26_code 16 = .ok ((.aload_n 0), 1) := tb_b153_ok (16, (.aload_n 0), 1) (List.mem_of_getElem? (i := 8) rfl)
theorem td_153_17 : decode prog_12_method_26_code 17 = .ok ((.iload_n 1), 1) := tb_b153_ok (17, (.iload_n 1), 1) (List.mem_of_getElem? (i := 9) rfl)
theorem td_153_18 : decode prog_12_method_26_code 18 = .ok ((.invokevirtual 161), 3) := tb_b153_ok (18, (.invokevirtual 161), 3) (List.mem_of_getElem? (i := 10) rfl)
theorem td_153_21 : decode prog_12_method_26_code 21 = .ok ((.aload_n 0), 1) := tb_b153_ok (21, (.aload_n 0), 1) (List.mem_of_getElem? (i := 11) rfl)
theorem td_153_22 : decode prog_12_method_26_code 22 = .ok ((.iload_n 2), 1) := tb_b153_ok (22, (.iload_n 2), 1) (List.mem_of_getElem? (i := 12) rfl)
theorem td_153_23 : decode prog_12_method_26_code 23 = .ok ((.invokevirtual 161), 3) := tb_b153_ok (23, (.invokevirtual 161), 3) (List.mem_of_getElem? (i := 13) rfl)
theorem td_153_26 : decode prog_12_method_26_code 26 = .ok ((.if_icmp .eq (5)), 3) := tb_b153_ok (26, (.if_icmp .eq (5)), 3) (List.mem_of_getElem? (i := 14) rfl)
theorem td_153_29 : decode prog_12_method_26_code 29 = .ok ((.iconst (0)), 1) := tb_b153_ok (29, (.iconst (0)), 1) (List.mem_of_getElem? (i := 15) rfl)
theorem td_153_30 : decode prog_12_method_26_code 30 = .ok (.ireturn, 1) := tb_b153_ok (30, .ireturn, 1) (List.mem_of_getElem? (i := 16) rfl)
theorem td_153_31 : decode prog_12_method_26_code 31 = .ok ((.aload_n 0), 1) := tb_b153_ok (31, (.aload_n 0), 1) (List.mem_of_getElem? (i := 17) rfl)
theorem td_153_32 : decode prog_12_method_26_code 32 = .ok ((.iload_n 1), 1) := tb_b153_ok (32, (.iload_n 1), 1) (List.mem_of_getElem? (i := 18) rfl)
theorem td_153_33 : decode prog_12_method_26_code 33 = .ok ((.iload_n 2), 1) := tb_b153_ok (33, (.iload_n 2), 1) (List.mem_of_getElem? (i := 19) rfl)
theorem td_153_34 : decode prog_12_method_26_code 34 = .ok ((.invokevirtual 177), 3) := tb_b153_ok (34, (.invokevirtual 177), 3) (List.mem_of_getElem? (i := 20) rfl)
theorem td_153_37 : decode prog_12_method_26_code 37 = .ok ((.ifCond .eq (7)), 3) := tb_b153_ok (37, (.ifCond .eq (7)), 3) (List.mem_of_getElem? (i := 21) rfl)
theorem td_153_40 : decode prog_12_method_26_code 40 = .ok ((.iconst (1)), 1) := tb_b153_ok (40, (.iconst (1)), 1) (List.mem_of_getElem? (i := 22) rfl)
theorem td_153_41 : decode prog_12_method_26_code 41 = .ok ((.goto (4)), 3) := tb_b153_ok (41, (.goto (4)), 3) (List.mem_of_getElem? (i := 23) rfl)
theorem td_153_44 : decode prog_12_method_26_code 44 = .ok ((.iconst (0)), 1) := tb_b153_ok (44, (.iconst (0)), 1) (List.mem_of_getElem? (i := 24) rfl)
theorem td_153_45 : decode prog_12_method_26_code 45 = .ok ((.aload_n 0), 1) := tb_b153_ok (45, (.aload_n 0), 1) (List.mem_of_getElem? (i := 25) rfl)
theorem td_153_46 : decode prog_12_method_26_code 46 = .ok ((.iload_n 1), 1) := tb_b153_ok (46, (.iload_n 1), 1) (List.mem_of_getElem? (i := 26) rfl)
theorem td_153_47 : decode prog_12_method_26_code 47 = .ok ((.iload_n 2), 1) := tb_b153_ok (47, (.iload_n 2), 1) (List.mem_of_getElem? (i := 27) rfl)
theorem td_153_48 : decode prog_12_method_26_code 48 = .ok ((.invokevirtual 180), 3) := tb_b153_ok (48, (.invokevirtual 180), 3) (List.mem_of_getElem? (i := 28) rfl)
theorem td_153_51 : decode prog_12_method_26_code 51 = .ok ((.ifCond .eq (7)), 3) := tb_b153_ok (51, (.ifCond .eq (7)), 3) (List.mem_of_getElem? (i := 29) rfl)
theorem td_153_54 : decode prog_12_method_26_code 54 = .ok ((.iconst (2)), 1) := tb_b153_ok (54, (.iconst (2)), 1) (List.mem_of_getElem? (i := 30) rfl)
theorem td_153_55 : decode prog_12_method_26_code 55 = .ok ((.goto (4)), 3) := tb_b153_ok (55, (.goto (4)), 3) (List.mem_of_getElem? (i := 31) rfl)
theorem td_153_58 : decode prog_12_method_26_code 58 = .ok ((.iconst (0)), 1) := tb_b153_ok (58, (.iconst (0)), 1) (List.mem_of_getElem? (i := 32) rfl)
theorem td_153_59 : decode prog_12_method_26_code 59 = .ok (.iadd, 1) := tb_b153_ok (59, .iadd, 1) (List.mem_of_getElem? (i := 33) rfl)
theorem td_153_60 : decode prog_12_method_26_code 60 = .ok ((.aload_n 0), 1) := tb_b153_ok (60, (.aload_n 0), 1) (List.mem_of_getElem? (i := 34) rfl)
theorem td_153_61 : decode prog_12_method_26_code 61 = .ok ((.iload_n 1), 1) := tb_b153_ok (61, (.iload_n 1), 1) (List.mem_of_getElem? (i := 35) rfl)
theorem td_153_62 : decode prog_12_method_26_code 62 = .ok ((.iload_n 2), 1) := tb_b153_ok (62, (.iload_n 2), 1) (List.mem_of_getElem? (i := 36) rfl)
theorem td_153_63 : decode prog_12_method_26_code 63 = .ok ((.invokevirtual 183), 3) := tb_b153_ok (63, (.invokevirtual 183), 3) (List.mem_of_getElem? (i := 37) rfl)
theorem td_153_66 : decode prog_12_method_26_code 66 = .ok ((.ifCond .eq (7)), 3) := tb_b153_ok (66, (.ifCond .eq (7)), 3) (List.mem_of_getElem? (i := 38) rfl)
theorem td_153_69 : decode prog_12_method_26_code 69 = .ok ((.iconst (4)), 1) := tb_b153_ok (69, (.iconst (4)), 1) (List.mem_of_getElem? (i := 39) rfl)
theorem td_153_70 : decode prog_12_method_26_code 70 = .ok ((.goto (4)), 3) := tb_b153_ok (70, (.goto (4)), 3) (List.mem_of_getElem? (i := 40) rfl)
theorem td_153_73 : decode prog_12_method_26_code 73 = .ok ((.iconst (0)), 1) := tb_b153_ok (73, (.iconst (0)), 1) (List.mem_of_getElem? (i := 41) rfl)
theorem td_153_74 : decode prog_12_method_26_code 74 = .ok (.iadd, 1) := tb_b153_ok (74, .iadd, 1) (List.mem_of_getElem? (i := 42) rfl)
theorem td_153_75 : decode prog_12_method_26_code 75 = .ok ((.aload_n 0), 1) := tb_b153_ok (75, (.aload_n 0), 1) (List.mem_of_getElem? (i := 43) rfl)
theorem td_153_76 : decode prog_12_method_26_code 76 = .ok ((.iload_n 1), 1) := tb_b153_ok (76, (.iload_n 1), 1) (List.mem_of_getElem? (i := 44) rfl)
theorem td_153_77 : decode prog_12_method_26_code 77 = .ok ((.iload_n 2), 1) := tb_b153_ok (77, (.iload_n 2), 1) (List.mem_of_getElem? (i := 45) rfl)
theorem td_153_78 : decode prog_12_method_26_code 78 = .ok ((.invokevirtual 185), 3) := tb_b153_ok (78, (.invokevirtual 185), 3) (List.mem_of_getElem? (i := 46) rfl)
theorem td_153_81 : decode prog_12_method_26_code 81 = .ok ((.ifCond .eq (8)), 3) := tb_b153_ok (81, (.ifCond .eq (8)), 3) (List.mem_of_getElem? (i := 47) rfl)
theorem td_153_84 : decode prog_12_method_26_code 84 = .ok ((.bipush (8)), 2) := tb_b153_ok (84, (.bipush (8)), 2) (List.mem_of_getElem? (i := 48) rfl)
theorem td_153_86 : decode prog_12_method_26_code 86 = .ok ((.goto (4)), 3) := tb_b153_ok (86, (.goto (4)), 3) (List.mem_of_getElem? (i := 49) rfl)
theorem td_153_89 : decode prog_12_method_26_code 89 = .ok ((.iconst (0)), 1) := tb_b153_ok (89, (.iconst (0)), 1) (List.mem_of_getElem? (i := 50) rfl)
theorem td_153_90 : decode prog_12_method_26_code 90 = .ok (.iadd, 1) := tb_b153_ok (90, .iadd, 1) (List.mem_of_getElem? (i := 51) rfl)
theorem td_153_91 : decode prog_12_method_26_code 91 = .ok (.ireturn, 1) := tb_b153_ok (91, .ireturn, 1) (List.mem_of_getElem? (i := 52) rfl)
theorem td_169_0 : decode prog_12_method_28_code 0 = .ok ((.aload_n 0), 1) := tb_b169_ok (0, (.aload_n 0), 1) (List.mem_of_getElem? (i := 0) rfl)
theorem td_169_1 : decode prog_12_method_28_code 1 = .ok ((.iconst (4)), 1) := tb_b169_ok (1, (.iconst (4)), 1) (List.mem_of_getElem? (i := 1) rfl)
theorem td_169_2 : decode prog_12_method_28_code 2 = .ok ((.iload_n 1), 1) := tb_b169_ok (2, (.iload_n 1), 1) (List.mem_of_getElem? (i := 2) rfl)
theorem td_169_3 : decode prog_12_method_28_code 3 = .ok (.imul, 1) := tb_b169_ok (3, .imul, 1) (List.mem_of_getElem? (i := 3) rfl)
theorem td_169_4 : decode prog_12_method_28_code 4 = .ok ((.iload_n 2), 1) := tb_b169_ok (4, (.iload_n 2), 1) (List.mem_of_getElem? (i := 4) rfl)
theorem td_169_5 : decode prog_12_method_28_code 5 = .ok ((.bipush (6)), 2) := tb_b169_ok (5, (.bipush (6)), 2) (List.mem_of_getElem? (i := 5) rfl)
theorem td_169_7 : decode prog_12_method_28_code 7 = .ok (.ishr, 1) := tb_b169_ok (7, .ishr, 1) (List.mem_of_getElem? (i := 6) rfl)
theorem td_169_8 : decode prog_12_method_28_code 8 = .ok (.iadd, 1) := tb_b169_ok (8, .iadd, 1) (List.mem_of_getElem? (i := 7) rfl)
theorem td_169_9 : decode prog_12_method_28_code 9 = .ok (.dup2, 1) := tb_b169_ok (9, .dup2, 1) (List.mem_of_getElem? (i := 8) rfl)
theorem td_169_10 : decode prog_12_method_28_code 10 = .ok (.laload, 1) := tb_b169_ok (10, .laload, 1) (List.mem_of_getElem? (i := 9) rfl)
theorem td_169_11 : decode prog_12_method_28_code 11 = .ok ((.lconst 1), 1) := tb_b169_ok (11, (.lconst 1), 1) (List.mem_of_getElem? (i := 10) rfl)
theorem td_169_12 : decode prog_12_method_28_code 12 = .ok ((.iload_n 2), 1) := tb_b169_ok (12, (.iload_n 2), 1) (List.mem_of_getElem? (i := 11) rfl)
theorem td_169_13 : decode prog_12_method_28_code 13 = .ok ((.bipush (63)), 2) := tb_b169_ok (13, (.bipush (63)), 2) (List.mem_of_getElem? (i := 12) rfl)
theorem td_169_15 : decode prog_12_method_28_code 15 = .ok (.iand, 1) := tb_b169_ok (15, .iand, 1) (List.mem_of_getElem? (i := 13) rfl)
theorem td_169_16 : decode prog_12_method_28_code 16 = .ok (.lshl, 1) := tb_b169_ok (16, .lshl, 1) (List.mem_of_getElem? (i := 14) rfl)
theorem td_169_17 : decode prog_12_method_28_code 17 = .ok (.lor, 1) := tb_b169_ok (17, .lor, 1) (List.mem_of_getElem? (i := 15) rfl)
theorem td_169_18 : decode prog_12_method_28_code 18 = .ok (.lastore, 1) := tb_b169_ok (18, .lastore, 1) (List.mem_of_getElem? (i := 16) rfl)
theorem td_169_19 : decode prog_12_method_28_code 19 = .ok (.return_, 1) := tb_b169_ok (19, .return_, 1) (List.mem_of_getElem? (i := 17) rfl)
theorem td_149_0 : decode prog_12_method_10_code 0 = .ok ((.iconst (0)), 1) := tb_b149_ok (0, (.iconst (0)), 1) (List.mem_of_getElem? (i := 0) rfl)
theorem td_149_1 : decode prog_12_method_10_code 1 = .ok ((.istore_n 1), 1) := tb_b149_ok (1, (.istore_n 1), 1) (List.mem_of_getElem? (i := 1) rfl)
theorem td_149_2 : decode prog_12_method_10_code 2 = .ok ((.iload_n 1), 1) := tb_b149_ok (2, (.iload_n 1), 1) (List.mem_of_getElem? (i := 2) rfl)
theorem td_149_3 : decode prog_12_method_10_code 3 = .ok ((.bipush (36)), 2) := tb_b149_ok (3, (.bipush (36)), 2) (List.mem_of_getElem? (i := 3) rfl)
theorem td_149_5 : decode prog_12_method_10_code 5 = .ok ((.if_icmp .ge (16)), 3) := tb_b149_ok (5, (.if_icmp .ge (16)), 3) (List.mem_of_getElem? (i := 4) rfl)
theorem td_149_8 : decode prog_12_method_10_code 8 = .ok ((.aload_n 0), 1) := tb_b149_ok (8, (.aload_n 0), 1) (List.mem_of_getElem? (i := 5) rfl)
theorem td_149_9 : decode prog_12_method_10_code 9 = .ok ((.getfield 46), 3) := tb_b149_ok (9, (.getfield 46), 3) (List.mem_of_getElem? (i := 6) rfl)
theorem td_149_12 : decode prog_12_method_10_code 12 = .ok ((.iload_n 1), 1) := tb_b149_ok (12, (.iload_n 1), 1) (List.mem_of_getElem? (i := 7) rfl)
theorem td_149_13 : decode prog_12_method_10_code 13 = .ok ((.lconst 0), 1) := tb_b149_ok (13, (.lconst 0), 1) (List.mem_of_getElem? (i := 8) rfl)
theorem td_149_14 : decode prog_12_method_10_code 14 = .ok (.lastore, 1) := tb_b149_ok (14, .lastore, 1) (List.mem_of_getElem? (i := 9) rfl)
theorem td_149_15 : decode prog_12_method_10_code 15 = .ok ((.iinc 1 (1)), 3) := tb_b149_ok (15, (.iinc 1 (1)), 3) (List.mem_of_getElem? (i := 10) rfl)
theorem td_149_18 : decode prog_12_method_10_code 18 = .ok ((.goto (-16)), 3) := tb_b149_ok (18, (.goto (-16)), 3) (List.mem_of_getElem? (i := 11) rfl)
theorem td_149_21 : decode prog_12_method_10_code 21 = .ok ((.iconst (0)), 1) := tb_b149_ok (21, (.iconst (0)), 1) (List.mem_of_getElem? (i := 12) rfl)
theorem td_149_22 : decode prog_12_method_10_code 22 = .ok ((.istore_n 1), 1) := tb_b149_ok (22, (.istore_n 1), 1) (List.mem_of_getElem? (i := 13) rfl)
theorem td_149_23 : decode prog_12_method_10_code 23 = .ok ((.iload_n 1), 1) := tb_b149_ok (23, (.iload_n 1), 1) (List.mem_of_getElem? (i := 14) rfl)
theorem td_149_24 : decode prog_12_method_10_code 24 = .ok ((.aload_n 0), 1) := tb_b149_ok (24, (.aload_n 0), 1) (List.mem_of_getElem? (i := 15) rfl)
theorem td_149_25 : decode prog_12_method_10_code 25 = .ok ((.getfield 104), 3) := tb_b149_ok (25, (.getfield 104), 3) (List.mem_of_getElem? (i := 16) rfl)
theorem td_149_28 : decode prog_12_method_10_code 28 = .ok ((.if_icmp .ge (60)), 3) := tb_b149_ok (28, (.if_icmp .ge (60)), 3) (List.mem_of_getElem? (i := 17) rfl)
theorem td_149_31 : decode prog_12_method_10_code 31 = .ok ((.iconst (0)), 1) := tb_b149_ok (31, (.iconst (0)), 1) (List.mem_of_getElem? (i := 18) rfl)
theorem td_149_32 : decode prog_12_method_10_code 32 = .ok ((.istore_n 2), 1) := tb_b149_ok (32, (.istore_n 2), 1) (List.mem_of_getElem? (i := 19) rfl)
theorem td_149_33 : decode prog_12_method_10_code 33 = .ok ((.iload_n 2), 1) := tb_b149_ok (33, (.iload_n 2), 1) (List.mem_of_getElem? (i := 20) rfl)
theorem td_149_34 : decode prog_12_method_10_code 34 = .ok ((.iconst (2)), 1) := tb_b149_ok (34, (.iconst (2)), 1) (List.mem_of_getElem? (i := 21) rfl)
theorem td_149_35 : decode prog_12_method_10_code 35 = .ok ((.if_icmp .ge (47)), 3) := tb_b149_ok (35, (.if_icmp .ge (47)), 3) (List.mem_of_getElem? (i := 22) rfl)
theorem td_149_38 : decode prog_12_method_10_code 38 = .ok ((.aload_n 0), 1) := tb_b149_ok (38, (.aload_n 0), 1) (List.mem_of_getElem? (i := 23) rfl)
theorem td_149_39 : decode prog_12_method_10_code 39 = .ok ((.getfield 7), 3) := tb_b149_ok (39, (.getfield 7), 3) (List.mem_of_getElem? (i := 24) rfl)
theorem td_149_42 : decode prog_12_method_10_code 42 = .ok ((.iload_n 1), 1) := tb_b149_ok (42, (.iload_n 1), 1) (List.mem_of_getElem? (i := 25) rfl)
theorem td_149_43 : decode prog_12_method_10_code 43 = .ok (.iaload, 1) := tb_b149_ok (43, .iaload, 1) (List.mem_of_getElem? (i := 26) rfl)
theorem td_149_44 : decode prog_12_method_10_code 44 = .ok ((.bipush (18)), 2) := tb_b149_ok (44, (.bipush (18)), 2) (List.mem_of_getElem? (i := 27) rfl)
theorem td_149_46 : decode prog_12_method_10_code 46 = .ok ((.if_icmp .eq (36)), 3) := tb_b149_ok (46, (.if_icmp .eq (36)), 3) (List.mem_of_getElem? (i := 28) rfl)
theorem td_149_49 : decode prog_12_method_10_code 49 = .ok ((.aload_n 0), 1) := tb_b149_ok (49, (.aload_n 0), 1) (List.mem_of_getElem? (i := 29) rfl)
theorem td_149_50 : decode prog_12_method_10_code 50 = .ok ((.iload_n 1), 1) := tb_b149_ok (50, (.iload_n 1), 1) (List.mem_of_getElem? (i := 30) rfl)
theorem td_149_51 : decode prog_12_method_10_code 51 = .ok ((.iload_n 2), 1) := tb_b149_ok (51, (.iload_n 2), 1) (List.mem_of_getElem? (i := 31) rfl)
theorem td_149_52 : decode prog_12_method_10_code 52 = .ok ((.invokevirtual 137), 3) := tb_b149_ok (52, (.invokevirtual 137), 3) (List.mem_of_getElem? (i := 32) rfl)
theorem td_149_55 : decode prog_12_method_10_code 55 = .ok ((.istore_n 3), 1) := tb_b149_ok (55, (.istore_n 3), 1) (List.mem_of_getElem? (i := 33) rfl)
theorem td_149_56 : decode prog_12_method_10_code 56 = .ok ((.aload_n 0), 1) := tb_b149_ok (56, (.aload_n 0), 1) (List.mem_of_getElem? (i := 34) rfl)
theorem td_149_57 : decode prog_12_method_10_code 57 = .ok ((.getfield 46), 3) := tb_b149_ok (57, (.getfield 46), 3) (List.mem_of_getElem? (i := 35) rfl)
theorem td_149_60 : decode prog_12_method_10_code 60 = .ok ((.iload_n 1), 1) := tb_b149_ok (60, (.iload_n 1), 1) (List.mem_of_getElem? (i := 36) rfl)
theorem td_149_61 : decode prog_12_method_10_code 61 = .ok (.dup2, 1) := tb_b149_ok (61, .dup2, 1) (List.mem_of_getElem? (i := 37) rfl)
theorem td_149_62 : decode prog_12_method_10_code 62 = .ok (.laload, 1) := tb_b149_ok (62, .laload, 1) (List.mem_of_getElem? (i := 38) rfl)
theorem td_149_63 : decode prog_12_method_10_code 63 = .ok ((.iload_n 3), 1) := tb_b149_ok (63, (.iload_n 3), 1) (List.mem_of_getElem? (i := 39) rfl)
theorem td_149_64 : decode prog_12_method_10_code 64 = .ok ((.ifCond .ge (7)), 3) := tb_b149_ok (64, (.ifCond .ge (7)), 3) (List.mem_of_getElem? (i := 40) rfl)
theorem td_149_67 : decode prog_12_method_10_code 67 = .ok ((.lconst 0), 1) := tb_b149_ok (67, (.lconst 0), 1) (List.mem_of_getElem? (i := 41) rfl)
theorem td_149_68 : decode prog_12_method_10_code 68 = .ok ((.goto (6)), 3) := tb_b149_ok (68, (.goto (6)), 3) (List.mem_of_getElem? (i := 42) rfl)
theorem td_149_71 : decode prog_12_method_10_code 71 = .ok ((.lconst 1), 1) := tb_b149_ok (71, (.lconst 1), 1) (List.mem_of_getElem? (i := 43) rfl)
theorem td_149_72 : decode prog_12_method_10_code 72 = .ok ((.iload_n 3), 1) := tb_b149_ok (72, (.iload_n 3), 1) (List.mem_of_getElem? (i := 44) rfl)
theorem td_149_73 : decode prog_12_method_10_code 73 = .ok (.lshl, 1) := tb_b149_ok (73, .lshl, 1) (List.mem_of_getElem? (i := 45) rfl)
theorem td_149_74 : decode prog_12_method_10_code 74 = .ok (.lor, 1) := tb_b149_ok (74, .lor, 1) (List.mem_of_getElem? (i := 46) rfl)
theorem td_149_75 : decode prog_12_method_10_code 75 = .ok (.lastore, 1) := tb_b149_ok (75, .lastore, 1) (List.mem_of_getElem? (i := 47) rfl)
theorem td_149_76 : decode prog_12_method_10_code 76 = .ok ((.iinc 2 (1)), 3) := tb_b149_ok (76, (.iinc 2 (1)), 3) (List.mem_of_getElem? (i := 48) rfl)
theorem td_149_79 : decode prog_12_method_10_code 79 = .ok ((.goto (-46)), 3) := tb_b149_ok (79, (.goto (-46)), 3) (List.mem_of_getElem? (i := 49) rfl)
theorem td_149_82 : decode prog_12_method_10_code 82 = .ok ((.iinc 1 (1)), 3) := tb_b149_ok (82, (.iinc 1 (1)), 3) (List.mem_of_getElem? (i := 50) rfl)
theorem td_149_85 : decode prog_12_method_10_code 85 = .ok ((.goto (-62)), 3) := tb_b149_ok (85, (.goto (-62)), 3) (List.mem_of_getElem? (i := 51) rfl)
theorem td_149_88 : decode prog_12_method_10_code 88 = .ok ((.iconst (0)), 1) := tb_b149_ok (88, (.iconst (0)), 1) (List.mem_of_getElem? (i := 52) rfl)
theorem td_149_89 : decode prog_12_method_10_code 89 = .ok ((.istore_n 1), 1) := tb_b149_ok (89, (.istore_n 1), 1) (List.mem_of_getElem? (i := 53) rfl)
theorem td_149_90 : decode prog_12_method_10_code 90 = .ok ((.iload_n 1), 1) := tb_b149_ok (90, (.iload_n 1), 1) (List.mem_of_getElem? (i := 54) rfl)
theorem td_149_91 : decode prog_12_method_10_code 91 = .ok ((.bipush (36)), 2) := tb_b149_ok (91, (.bipush (36)), 2) (List.mem_of_getElem? (i := 55) rfl)
theorem td_149_93 : decode prog_12_method_10_code 93 = .ok ((.if_icmp .ge (57)), 3) := tb_b149_ok (93, (.if_icmp .ge (57)), 3) (List.mem_of_getElem? (i := 56) rfl)
theorem td_149_96 : decode prog_12_method_10_code 96 = .ok ((.iconst (0)), 1) := tb_b149_ok (96, (.iconst (0)), 1) (List.mem_of_getElem? (i := 57) rfl)
theorem td_149_97 : decode prog_12_method_10_code 97 = .ok ((.istore_n 2), 1) := tb_b149_ok (97, (.istore_n 2), 1) (List.mem_of_getElem? (i := 58) rfl)
theorem td_149_98 : decode prog_12_method_10_code 98 = .ok ((.iload_n 2), 1) := tb_b149_ok (98, (.iload_n 2), 1) (List.mem_of_getElem? (i := 59) rfl)
theorem td_149_99 : decode prog_12_method_10_code 99 = .ok ((.bipush (36)), 2) := tb_b149_ok (99, (.bipush (36)), 2) (List.mem_of_getElem? (i := 60) rfl)
theorem td_149_101 : decode prog_12_method_10_code 101 = .ok ((.if_icmp .ge (43)), 3) := tb_b149_ok (101, (.if_icmp .ge (43)), 3) (List.mem_of_getElem? (i := 61) rfl)
theorem td_149_104 : decode prog_12_method_10_code 104 = .ok ((.aload_n 0), 1) := tb_b149_ok (104, (.aload_n 0), 1) (List.mem_of_getElem? (i := 62) rfl)
theorem td_149_105 : decode prog_12_method_10_code 105 = .ok ((.getfield 46), 3) := tb_b149_ok (105, (.getfield 46), 3) (List.mem_of_getElem? (i := 63) rfl)
theorem td_149_108 : decode prog_12_method_10_code 108 = .ok ((.iload_n 2), 1) := tb_b149_ok (108, (.iload_n 2), 1) (List.mem_of_getElem? (i := 64) rfl)
theorem td_149_109 : decode prog_12_method_10_code 109 = .ok (.dup2, 1) := tb_b149_ok (109, .dup2, 1) (List.mem_of_getElem? (i := 65) rfl)
theorem td_149_110 : decode prog_12_method_10_code 110 = .ok (.laload, 1) := tb_b149_ok (110, .laload, 1) (List.mem_of_getElem? (i := 66) rfl)
theorem td_149_111 : decode prog_12_method_10_code 111 = .ok ((.aload_n 0), 1) := tb_b149_ok (111, (.aload_n 0), 1) (List.mem_of_getElem? (i := 67) rfl)
theorem td_149_112 : decode prog_12_method_10_code 112 = .ok ((.getfield 46), 3) := tb_b149_ok (112, (.getfield 46), 3) (List.mem_of_getElem? (i := 68) rfl)
theorem td_149_115 : decode prog_12_method_10_code 115 = .ok ((.iload_n 2), 1) := tb_b149_ok (115, (.iload_n 2), 1) (List.mem_of_getElem? (i := 69) rfl)
theorem td_149_116 : decode prog_12_method_10_code 116 = .ok (.laload, 1) := tb_b149_ok (116, .laload, 1) (List.mem_of_getElem? (i := 70) rfl)
theorem td_149_117 : decode prog_12_method_10_code 117 = .ok ((.iload_n 1), 1) := tb_b149_ok (117, (.iload_n 1), 1) (List.mem_of_getElem? (i := 71) rfl)
theorem td_149_118 : decode prog_12_method_10_code 118 = .ok (.lshr, 1) := tb_b149_ok (118, .lshr, 1) (List.mem_of_getElem? (i := 72) rfl)
theorem td_149_119 : decode prog_12_method_10_code 119 = .ok ((.lconst 1), 1) := tb_b149_ok (119, (.lconst 1), 1) (List.mem_of_getElem? (i := 73) rfl)
theorem td_149_120 : decode prog_12_method_10_code 120 = .ok (.land, 1) := tb_b149_ok (120, .land, 1) (List.mem_of_getElem? (i := 74) rfl)
theorem td_149_121 : decode prog_12_method_10_code 121 = .ok ((.lconst 0), 1) := tb_b149_ok (121, (.lconst 0), 1) (List.mem_of_getElem? (i := 75) rfl)
theorem td_149_122 : decode prog_12_method_10_code 122 = .ok (.lcmp, 1) := tb_b149_ok (122, .lcmp, 1) (List.mem_of_getElem? (i := 76) rfl)
theorem td_149_123 : decode prog_12_method_10_code 123 = .ok ((.ifCond .eq (12)), 3) := tb_b149_ok (123, (.ifCond .eq (12)), 3) (List.mem_of_getElem? (i := 77) rfl)
theorem td_149_126 : decode prog_12_method_10_code 126 = .ok ((.aload_n 0), 1) := tb_b149_ok (126, (.aload_n 0), 1) (List.mem_of_getElem? (i := 78) rfl)
theorem td_149_127 : decode prog_12_method_10_code 127 = .ok ((.getfield 46), 3) := tb_b149_ok (127, (.getfield 46), 3) (List.mem_of_getElem? (i := 79) rfl)
theorem td_149_130 : decode prog_12_method_10_code 130 = .ok ((.iload_n 1), 1) := tb_b149_ok (130, (.iload_n 1), 1) (List.mem_of_getElem? (i := 80) rfl)
theorem td_149_131 : decode prog_12_method_10_code 131 = .ok (.laload, 1) := tb_b149_ok (131, .laload, 1) (List.mem_of_getElem? (i := 81) rfl)
theorem td_149_132 : decode prog_12_method_10_code 132 = .ok ((.goto (4)), 3) := tb_b149_ok (132, (.goto (4)), 3) (List.mem_of_getElem? (i := 82) rfl)
theorem td_149_135 : decode prog_12_method_10_code 135 = .ok ((.lconst 0), 1) := tb_b149_ok (135, (.lconst 0), 1) (List.mem_of_getElem? (i := 83) rfl)
theorem td_149_136 : decode prog_12_method_10_code 136 = .ok (.lor, 1) := tb_b149_ok (136, .lor, 1) (List.mem_of_getElem? (i := 84) rfl)
theorem td_149_137 : decode prog_12_method_10_code 137 = .ok (.lastore, 1) := tb_b149_ok (137, .lastore, 1) (List.mem_of_getElem? (i := 85) rfl)
theorem td_149_138 : decode prog_12_method_10_code 138 = .ok ((.iinc 2 (1)), 3) := tb_b149_ok (138, (.iinc 2 (1)), 3) (List.mem_of_getElem? (i := 86) rfl)
theorem td_149_141 : decode prog_12_method_10_code 141 = .ok ((.goto (-43)), 3) := tb_b149_ok (141, (.goto (-43)), 3) (List.mem_of_getElem? (i := 87) rfl)
theorem td_149_144 : decode prog_12_method_10_code 144 = .ok ((.iinc 1 (1)), 3) := tb_b149_ok (144, (.iinc 1 (1)), 3) (List.mem_of_getElem? (i := 88) rfl)
theorem td_149_147 : decode prog_12_method_10_code 147 = .ok ((.goto (-57)), 3) := tb_b149_ok (147, (.goto (-57)), 3) (List.mem_of_getElem? (i := 89) rfl)
theorem td_149_150 : decode prog_12_method_10_code 150 = .ok (.return_, 1) := tb_b149_ok (150, .return_, 1) (List.mem_of_getElem? (i := 90) rfl)
/-! the reference's build on a fresh object -/
theorem sm_l42 {a b c d : Option Value} : ∀ (i : Nat) (v : Value), ([a, b, none, none] : List (Option Value))[i]? = some (some v) → ([a, b, c, d] : List (Option Value))[i]? = some (some v)
  | 0, _, h => h
  | 1, _, h => h
  | 2, _, h => by cases h
  | 3, _, h => by cases h
  | i + 4, _, h => by simp at h
theorem sm_l41 {a b c d : Option Value} : ∀ (i : Nat) (v : Value), ([a, none, none, none] : List (Option Value))[i]? = some (some v) → ([a, b, c, d] : List (Option Value))[i]? = some (some v)
  | 0, _, h => h
  | 1, _, h => by cases h
  | 2, _, h => by cases h
  | 3, _, h => by cases h
  | i + 4, _, h => by simp at h
def mb_L0 : List (Option Value) := [some (.ref 46), none, none]
def mb_L1 : List (Option Value) := [some (.ref 46), some (.int (-1)), some (.int 0)]
def mb_T : Option (dp_T ⊕ dp_R) := ev_T 1 146 80 (3, some .int, false) (0, mb_L0, [], ev_s2, ev_Pm, dp_w0)
theorem mb_T_ok : ev_okT mb_T 80 mb_L1 [.ref 46] ev_s2 = true := by decide +kernel
def mb_P : dp_P := (ev_getT mb_T).1
/-- all but the rows of dependences -/
def mb_f (P : dp_P) : dp_P := (P.1, fun q j => bif Nat.ble 60 q && Nat.ble q 62 then none else P.2 q j)
def mb_F : dp_P := mb_f mb_P
theorem mb_f_le {P : dp_P} {μ : sm_M} (h : dp_le P μ) : dp_le (mb_f P) μ := by
  refine ⟨h.1, fun q j v hv => h.2 q j v ?_⟩
  have hv : (bif Nat.ble 60 q && Nat.ble q 62 then none else P.2 q j) = some v := hv
  cases hb : (Nat.ble 60 q && Nat.ble q 62) with
  | true => rw [hb] at hv; cases hv
  | false => rw [hb] at hv; exact hv
theorem mb_f_ul {P : dp_P} {μ : sm_M} (h : dp_le (mb_f P) μ) {p i : Nat} {v : Int64} (h1 : 60 ≤ p) (h2 : p ≤ 62) : dp_le (mb_f P) (sm_ul μ p i v) := by
  refine ⟨h.1, fun q j u hu => ?_⟩
  by_cases hq : q = p
  · subst hq
    have hu : (bif Nat.ble 60 q && Nat.ble q 62 then none else P.2 q j) = some u := hu
    rw [Nat.ble_eq_true_of_le h1, Nat.ble_eq_true_of_le h2] at hu
    cases hu
  · have h3 := h.2 q j u hu
    simpa [sm_ul, hq] using h3
/-! ways -/
theorem mb_keep {P : dp_P} {μ : sm_M} (h : dp_le P μ) {p i : Nat} {v : Int64} (hv : P.2 p i = some v) : dp_le P (sm_ul μ p i v) := by
  refine ⟨h.1, fun q j u hu => ?_⟩
  by_cases hq : q = p
  · subst hq
    by_cases hj : j = i
    · subst hj
      rw [hv] at hu
      cases hu
      simp [sm_ul, vp_updL]
    · have h3 := h.2 q j u hu
      simpa [sm_ul, vp_updL, hj] using h3
  · have h3 := h.2 q j u hu
    simpa [sm_ul, hq] using h3
theorem mb_r0 : (List.range 36).all (fun n => decide (mb_F.2 59 n = some 0)) = true := by decide +kernel
theorem mb_sh : (List.range 36).all (fun k => decide (lg_cmp ((0 : Int64) >>> ((nI k).toInt64 &&& 63) &&& Int64.ofNat ((1 : Fin 2) : Nat)) (Int64.ofNat ((0 : Fin 2) : Nat)) = 0)) = true := by decide +kernel
theorem mb_ways_C {Z : sm_Z} (ad : Nat → Nat) (μ : sm_M) (h : dp_le mb_F μ) : sm_C tb_cl Z (tb_ys 149) (tb_ws 149) (dp_rm 1 32 ev_s2 ev_s2) [.ref 46] ad ev_s2 μ (fun r sh' μ' => r = none ∧ sh' = ev_s2 ∧ dp_le mb_F μ') := by
  refine sm_enter (cc := prog_12_method_10_code) (nL := 4) (ret := none) (by decide +kernel) (Nat.le_of_ble_eq_true rfl) (fun X hXZ hX hf => ?_)
  rw [show (tb_ys 149).cls = "ProgramSlicesModel" by decide +kernel] at hX
  have r0 : ∀ n, n < 36 → mb_F.2 59 n = some 0 := fun n hn => of_decide_eq_true (List.all_eq_true.mp mb_r0 n (List.mem_range.mpr hn))
  have inner : ∀ (k : Nat), k < 36 → (∀ μ1 : sm_M, dp_le mb_F μ1 → sm_E tb_cl X 90 [some (.ref 46), some (.int (nI (k + 1))), none, none] [] ad ev_s2 μ1) → ∀ (q n : Nat), n + q = 36 → ∀ μ1 : sm_M, dp_le mb_F μ1 → sm_E tb_cl X 98 [some (.ref 46), some (.int (nI k)), some (.int (nI n)), none] [] ad ev_s2 μ1 := by
    intro k hk next q
    induction q with
    | zero =>
      intro n hn μ1 h1
      have hn : n = 36 := by omega
      subst hn
      refine sm_iloadN hX td_149_98 rfl ?_
      refine sm_bipush hX td_149_99 ?_
      refine sm_icmp_ge hX 144 td_149_101 (by decide) (fun _ => ?_) (fun z => absurd (by decide) z)
      refine sm_iincG hX td_149_144 rfl rfl (by decide) ?_
      refine sm_goto hX 90 td_149_147 (by decide) ?_
      have e : nI k + Int32.ofInt 1 = nI (k + 1) := nI_1 k
      rw [e]
      refine sm_E.less ?_ (next μ1 h1)
      exact sm_l42
    | succ q ih =>
      intro n hn μ1 h1
      have hv : μ1.2 59 (nI n).toNatClampNeg = 0 := by
        rw [nI_clamp (show n < 2 ^ 31 by omega)]
        exact h1.2 59 n 0 (r0 n (by omega))
      have hc := of_decide_eq_true (List.all_eq_true.mp mb_sh k (List.mem_range.mpr hk))
      refine sm_iloadN hX td_149_98 rfl ?_
      refine sm_bipush hX td_149_99 ?_
      refine sm_icmp_ge hX 144 td_149_101 (by decide) (fun z => absurd z (nI_ge (a := n) (b := 36) (by omega) (by omega))) (fun _ => ?_)
      refine sm_aloadN hX td_149_104 rfl ?_
      refine sm_getR hX (k := 15) (q := 59) (ci := 10) (T := tb_T10) (N' := 38) (C := "ProgramSlicesModel") rfl rfl (by decide) rfl tb_u10 tb_w646 td_149_105 ?_
      refine sm_iloadN hX td_149_108 rfl ?_
      refine sm_dup2 hX td_149_109 rfl rfl ?_
      refine sm_lald hX (p := 59) (len := 36) rfl (nI_in (by omega) (by omega)) td_149_110 ?_
      refine sm_aloadN hX td_149_111 rfl ?_
      refine sm_getR hX (k := 15) (q := 59) (ci := 10) (T := tb_T10) (N' := 38) (C := "ProgramSlicesModel") rfl rfl (by decide) rfl tb_u10 tb_w646 td_149_112 ?_
      refine sm_iloadN hX td_149_115 rfl ?_
      refine sm_lald hX (p := 59) (len := 36) rfl (nI_in (by omega) (by omega)) td_149_116 ?_
      rw [hv]
      refine sm_iloadN hX td_149_117 rfl ?_
      refine sm_lshr hX td_149_118 ?_
      refine sm_lconst hX td_149_119 ?_
      refine sm_land hX td_149_120 ?_
      refine sm_lconst hX td_149_121 ?_
      refine sm_lcmp hX td_149_122 ?_
      refine sm_if_eq hX 135 td_149_123 (by decide) (fun _ => ?_) (fun z => absurd hc z)
      refine sm_lconst hX td_149_135 ?_
      refine sm_lor hX td_149_136 ?_
      refine sm_last hX (p := 59) (len := 36) rfl (nI_in (by omega) (by omega)) td_149_137 ?_
      refine sm_iincG hX td_149_138 rfl rfl (by decide) ?_
      refine sm_goto hX 98 td_149_141 (by decide) ?_
      have e : nI n + Int32.ofInt 1 = nI (n + 1) := nI_1 n
      rw [e, nI_clamp (show n < 2 ^ 31 by omega)]
      exact ih (n + 1) (by omega) _ (mb_keep h1 (r0 n (by omega)))
  have outer : ∀ (q k : Nat), k + q = 36 → ∀ μ1 : sm_M, dp_le mb_F μ1 → sm_E tb_cl X 90 [some (.ref 46), some (.int (nI k)), none, none] [] ad ev_s2 μ1 := by
    intro q
    induction q with
    | zero =>
      intro k hk μ1 h1
      have hk : k = 36 := by omega
      subst hk
      refine sm_iloadN hX td_149_90 rfl ?_
      refine sm_bipush hX td_149_91 ?_
      refine sm_icmp_ge hX 150 td_149_93 (by decide) (fun _ => ?_) (fun z => absurd (by decide) z)
      exact sm_vret hX hf rfl rfl (fun _ _ => rfl) rfl td_149_150 ⟨rfl, rfl, h1⟩
    | succ q ih =>
      intro k hk μ1 h1
      refine sm_iloadN hX td_149_90 rfl ?_
      refine sm_bipush hX td_149_91 ?_
      refine sm_icmp_ge hX 150 td_149_93 (by decide) (fun z => absurd z (nI_ge (a := k) (b := 36) (by omega) (by omega))) (fun _ => ?_)
      refine sm_iconst hX td_149_96 ?_
      refine sm_istoreN hX td_149_97 rfl (by decide) ?_
      exact inner k (by omega) (ih (k + 1) (by omega)) 36 0 (by omega) μ1 h1
  have hcount : mb_F.1 46 0 = some 0 := by decide +kernel
  have clear : ∀ (q k : Nat), k + q = 36 → ∀ μ1 : sm_M, dp_le mb_F μ1 → sm_E tb_cl X 2 [some (.ref 46), some (.int (nI k)), none, none] [] ad ev_s2 μ1 := by
    intro q
    induction q with
    | zero =>
      intro k hk μ1 h1
      have hk : k = 36 := by omega
      subst hk
      refine sm_iloadN hX td_149_2 rfl ?_
      refine sm_bipush hX td_149_3 ?_
      refine sm_icmp_ge hX 21 td_149_5 (by decide) (fun _ => ?_) (fun z => absurd (by decide) z)
      refine sm_iconst hX td_149_21 ?_
      refine sm_istoreN hX td_149_22 rfl (by decide) ?_
      refine sm_iloadN hX td_149_23 rfl ?_
      refine sm_aloadN hX td_149_24 rfl ?_
      refine sm_getI hX (k := 0) (ci := 10) (T := tb_T10) (N' := 38) (C := "ProgramSlicesModel") rfl rfl (by decide) rfl tb_u10 tb_w631 td_149_25 ?_
      rw [h1.1 46 0 0 hcount]
      refine sm_icmp_ge hX 88 td_149_28 (by decide) (fun _ => ?_) (fun z => absurd (by decide) z)
      refine sm_iconst hX td_149_88 ?_
      refine sm_istoreN hX td_149_89 rfl (by decide) ?_
      exact outer 36 0 (by omega) μ1 h1
    | succ q ih =>
      intro k hk μ1 h1
      refine sm_iloadN hX td_149_2 rfl ?_
      refine sm_bipush hX td_149_3 ?_
      refine sm_icmp_ge hX 21 td_149_5 (by decide) (fun z => absurd z (nI_ge (a := k) (b := 36) (by omega) (by omega))) (fun _ => ?_)
      refine sm_aloadN hX td_149_8 rfl ?_
      refine sm_getR hX (k := 15) (q := 59) (ci := 10) (T := tb_T10) (N' := 38) (C := "ProgramSlicesModel") rfl rfl (by decide) rfl tb_u10 tb_w646 td_149_9 ?_
      refine sm_iloadN hX td_149_12 rfl ?_
      refine sm_lconst hX td_149_13 ?_
      refine sm_last hX (p := 59) (len := 36) rfl (nI_in (by omega) (by omega)) td_149_14 ?_
      refine sm_iincG hX td_149_15 rfl rfl (by decide) ?_
      refine sm_goto hX 2 td_149_18 (by decide) ?_
      have e : nI k + Int32.ofInt 1 = nI (k + 1) := nI_1 k
      rw [e, nI_clamp (show k < 2 ^ 31 by omega)]
      exact ih (k + 1) (by omega) _ (mb_keep h1 (r0 k (by omega)))
  refine sm_iconst hX td_149_0 ?_
  refine sm_istoreN hX td_149_1 rfl (by decide) ?_
  exact clear 36 0 (by omega) μ h
/-! exists, by a table -/
def mb_ex (n : Nat) : Bool := Nat.ble 224 n && Nat.ble (n + 1) 231
def mb_okx (n : Nat) : Bool := match tb_cf 2 154 [.ref 46, .int (nI n)] ev_s2 mb_F with
  | some R => decide (R.1 = some (.int (bif mb_ex n then 1 else 0))) && (decide (R.2.1 = ev_s2) && Nat.ble R.2.2.2.2 R.2.2.2.1)
  | none => false
theorem mb_okx_all : (List.range 252).all mb_okx = true := by decide +kernel
theorem mb_ex_C {Z : sm_Z} (hZ : Z.2.2.2 = tb_N) {n : Nat} (hn : n < 252) (ad : Nat → Nat) (μ : sm_M) (h : dp_le mb_F μ) : sm_C tb_cl Z (tb_ys 154) (tb_ws 154) (dp_rm 2 64 ev_s2 ev_s2) [.ref 46, .int (nI n)] ad ev_s2 μ (fun r sh' μ' => r = some (.int (bif mb_ex n then 1 else 0)) ∧ sh' = ev_s2 ∧ μ' = μ) := by
  have h1 := List.all_eq_true.mp mb_okx_all n (List.mem_range.mpr hn)
  unfold mb_okx at h1
  split at h1
  · rename_i R hR
    rw [Bool.and_eq_true, Bool.and_eq_true] at h1
    obtain ⟨z1, z2, z3⟩ := h1
    have z1 := of_decide_eq_true z1
    have z2 := of_decide_eq_true z2
    have z3 := Nat.le_of_ble_eq_true z3
    have h5 := (tb_cfok hZ tb_prs 2 _ _ _ _ _ hR).2.2 ad μ h
    rw [z2] at h5
    exact h5.imp (fun r sh' μ' q => ⟨q.1.trans z1, q.2.1.trans z2, q.2.2.2.all z3⟩)
  · cases h1
