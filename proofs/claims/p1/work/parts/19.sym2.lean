theorem td_80_0 : decode prog_1_method_5_code 0 = .ok ((.iload_n 1), 1) := tb_b80_ok (0, (.iload_n 1), 1) (List.mem_of_getElem? (i := 0) rfl)
theorem td_80_1 : decode prog_1_method_5_code 1 = .ok ((.iconst (1)), 1) := tb_b80_ok (1, (.iconst (1)), 1) (List.mem_of_getElem? (i := 1) rfl)
theorem td_80_2 : decode prog_1_method_5_code 2 = .ok ((.if_icmp .lt (8)), 3) := tb_b80_ok (2, (.if_icmp .lt (8)), 3) (List.mem_of_getElem? (i := 2) rfl)
theorem td_80_5 : decode prog_1_method_5_code 5 = .ok ((.iload_n 1), 1) := tb_b80_ok (5, (.iload_n 1), 1) (List.mem_of_getElem? (i := 3) rfl)
theorem td_80_6 : decode prog_1_method_5_code 6 = .ok ((.iconst (5)), 1) := tb_b80_ok (6, (.iconst (5)), 1) (List.mem_of_getElem? (i := 4) rfl)
theorem td_80_7 : decode prog_1_method_5_code 7 = .ok ((.if_icmp .le (5)), 3) := tb_b80_ok (7, (.if_icmp .le (5)), 3) (List.mem_of_getElem? (i := 5) rfl)
theorem td_80_10 : decode prog_1_method_5_code 10 = .ok ((.iconst (0)), 1) := tb_b80_ok (10, (.iconst (0)), 1) (List.mem_of_getElem? (i := 6) rfl)
theorem td_80_11 : decode prog_1_method_5_code 11 = .ok (.ireturn, 1) := tb_b80_ok (11, .ireturn, 1) (List.mem_of_getElem? (i := 7) rfl)
theorem td_80_12 : decode prog_1_method_5_code 12 = .ok ((.aload_n 0), 1) := tb_b80_ok (12, (.aload_n 0), 1) (List.mem_of_getElem? (i := 8) rfl)
theorem td_80_13 : decode prog_1_method_5_code 13 = .ok ((.getfield 44), 3) := tb_b80_ok (13, (.getfield 44), 3) (List.mem_of_getElem? (i := 9) rfl)
theorem td_80_16 : decode prog_1_method_5_code 16 = .ok ((.iload_n 1), 1) := tb_b80_ok (16, (.iload_n 1), 1) (List.mem_of_getElem? (i := 10) rfl)
theorem td_80_17 : decode prog_1_method_5_code 17 = .ok ((.invokevirtual 103), 3) := tb_b80_ok (17, (.invokevirtual 103), 3) (List.mem_of_getElem? (i := 11) rfl)
theorem td_80_20 : decode prog_1_method_5_code 20 = .ok ((.iconst (1)), 1) := tb_b80_ok (20, (.iconst (1)), 1) (List.mem_of_getElem? (i := 12) rfl)
theorem td_80_21 : decode prog_1_method_5_code 21 = .ok (.ireturn, 1) := tb_b80_ok (21, .ireturn, 1) (List.mem_of_getElem? (i := 13) rfl)
theorem td_82_0 : decode prog_1_method_6_code 0 = .ok ((.aload_n 0), 1) := tb_b82_ok (0, (.aload_n 0), 1) (List.mem_of_getElem? (i := 0) rfl)
theorem td_82_1 : decode prog_1_method_6_code 1 = .ok ((.getfield 44), 3) := tb_b82_ok (1, (.getfield 44), 3) (List.mem_of_getElem? (i := 1) rfl)
theorem td_82_4 : decode prog_1_method_6_code 4 = .ok ((.iload_n 1), 1) := tb_b82_ok (4, (.iload_n 1), 1) (List.mem_of_getElem? (i := 2) rfl)
theorem td_82_5 : decode prog_1_method_6_code 5 = .ok ((.invokevirtual 107), 3) := tb_b82_ok (5, (.invokevirtual 107), 3) (List.mem_of_getElem? (i := 3) rfl)
theorem td_82_8 : decode prog_1_method_6_code 8 = .ok ((.ifCond .eq (14)), 3) := tb_b82_ok (8, (.ifCond .eq (14)), 3) (List.mem_of_getElem? (i := 4) rfl)
theorem td_82_11 : decode prog_1_method_6_code 11 = .ok ((.aload_n 0), 1) := tb_b82_ok (11, (.aload_n 0), 1) (List.mem_of_getElem? (i := 5) rfl)
theorem td_82_12 : decode prog_1_method_6_code 12 = .ok ((.getfield 44), 3) := tb_b82_ok (12, (.getfield 44), 3) (List.mem_of_getElem? (i := 6) rfl)
theorem td_82_15 : decode prog_1_method_6_code 15 = .ok ((.iload_n 2), 1) := tb_b82_ok (15, (.iload_n 2), 1) (List.mem_of_getElem? (i := 7) rfl)
theorem td_82_16 : decode prog_1_method_6_code 16 = .ok ((.invokevirtual 107), 3) := tb_b82_ok (16, (.invokevirtual 107), 3) (List.mem_of_getElem? (i := 8) rfl)
theorem td_82_19 : decode prog_1_method_6_code 19 = .ok ((.ifCond .ne (5)), 3) := tb_b82_ok (19, (.ifCond .ne (5)), 3) (List.mem_of_getElem? (i := 9) rfl)
theorem td_82_22 : decode prog_1_method_6_code 22 = .ok ((.iconst (0)), 1) := tb_b82_ok (22, (.iconst (0)), 1) (List.mem_of_getElem? (i := 10) rfl)
theorem td_82_23 : decode prog_1_method_6_code 23 = .ok (.ireturn, 1) := tb_b82_ok (23, .ireturn, 1) (List.mem_of_getElem? (i := 11) rfl)
theorem td_82_24 : decode prog_1_method_6_code 24 = .ok ((.aload_n 0), 1) := tb_b82_ok (24, (.aload_n 0), 1) (List.mem_of_getElem? (i := 12) rfl)
theorem td_82_25 : decode prog_1_method_6_code 25 = .ok ((.getfield 44), 3) := tb_b82_ok (25, (.getfield 44), 3) (List.mem_of_getElem? (i := 13) rfl)
theorem td_82_28 : decode prog_1_method_6_code 28 = .ok ((.iload_n 1), 1) := tb_b82_ok (28, (.iload_n 1), 1) (List.mem_of_getElem? (i := 14) rfl)
theorem td_82_29 : decode prog_1_method_6_code 29 = .ok ((.iload_n 2), 1) := tb_b82_ok (29, (.iload_n 2), 1) (List.mem_of_getElem? (i := 15) rfl)
theorem td_82_30 : decode prog_1_method_6_code 30 = .ok ((.invokevirtual 111), 3) := tb_b82_ok (30, (.invokevirtual 111), 3) (List.mem_of_getElem? (i := 16) rfl)
theorem td_82_33 : decode prog_1_method_6_code 33 = .ok ((.iconst (1)), 1) := tb_b82_ok (33, (.iconst (1)), 1) (List.mem_of_getElem? (i := 17) rfl)
theorem td_82_34 : decode prog_1_method_6_code 34 = .ok (.ireturn, 1) := tb_b82_ok (34, .ireturn, 1) (List.mem_of_getElem? (i := 18) rfl)
theorem td_86_0 : decode prog_1_method_7_code 0 = .ok ((.iload_n 2), 1) := tb_b86_ok (0, (.iload_n 2), 1) (List.mem_of_getElem? (i := 0) rfl)
theorem td_86_1 : decode prog_1_method_7_code 1 = .ok ((.invokestatic 115), 3) := tb_b86_ok (1, (.invokestatic 115), 3) (List.mem_of_getElem? (i := 1) rfl)
theorem td_86_4 : decode prog_1_method_7_code 4 = .ok ((.ifCond .eq (14)), 3) := tb_b86_ok (4, (.ifCond .eq (14)), 3) (List.mem_of_getElem? (i := 2) rfl)
theorem td_86_7 : decode prog_1_method_7_code 7 = .ok ((.aload_n 0), 1) := tb_b86_ok (7, (.aload_n 0), 1) (List.mem_of_getElem? (i := 3) rfl)
theorem td_86_8 : decode prog_1_method_7_code 8 = .ok ((.getfield 44), 3) := tb_b86_ok (8, (.getfield 44), 3) (List.mem_of_getElem? (i := 4) rfl)
theorem td_86_11 : decode prog_1_method_7_code 11 = .ok ((.iload_n 3), 1) := tb_b86_ok (11, (.iload_n 3), 1) (List.mem_of_getElem? (i := 5) rfl)
theorem td_86_12 : decode prog_1_method_7_code 12 = .ok ((.invokevirtual 107), 3) := tb_b86_ok (12, (.invokevirtual 107), 3) (List.mem_of_getElem? (i := 6) rfl)
theorem td_86_15 : decode prog_1_method_7_code 15 = .ok ((.ifCond .ne (5)), 3) := tb_b86_ok (15, (.ifCond .ne (5)), 3) (List.mem_of_getElem? (i := 7) rfl)
theorem td_86_18 : decode prog_1_method_7_code 18 = .ok ((.iconst (0)), 1) := tb_b86_ok (18, (.iconst (0)), 1) (List.mem_of_getElem? (i := 8) rfl)
theorem td_86_19 : decode prog_1_method_7_code 19 = .ok (.ireturn, 1) := tb_b86_ok (19, .ireturn, 1) (List.mem_of_getElem? (i := 9) rfl)
theorem td_86_20 : decode prog_1_method_7_code 20 = .ok ((.aload_n 0), 1) := tb_b86_ok (20, (.aload_n 0), 1) (List.mem_of_getElem? (i := 10) rfl)
theorem td_86_21 : decode prog_1_method_7_code 21 = .ok ((.getfield 44), 3) := tb_b86_ok (21, (.getfield 44), 3) (List.mem_of_getElem? (i := 11) rfl)
theorem td_86_24 : decode prog_1_method_7_code 24 = .ok ((.iload_n 1), 1) := tb_b86_ok (24, (.iload_n 1), 1) (List.mem_of_getElem? (i := 12) rfl)
theorem td_86_25 : decode prog_1_method_7_code 25 = .ok ((.iload_n 2), 1) := tb_b86_ok (25, (.iload_n 2), 1) (List.mem_of_getElem? (i := 13) rfl)
theorem td_86_26 : decode prog_1_method_7_code 26 = .ok ((.iload_n 3), 1) := tb_b86_ok (26, (.iload_n 3), 1) (List.mem_of_getElem? (i := 14) rfl)
theorem td_86_27 : decode prog_1_method_7_code 27 = .ok ((.invokevirtual 118), 3) := tb_b86_ok (27, (.invokevirtual 118), 3) (List.mem_of_getElem? (i := 15) rfl)
theorem td_86_30 : decode prog_1_method_7_code 30 = .ok ((.iconst (1)), 1) := tb_b86_ok (30, (.iconst (1)), 1) (List.mem_of_getElem? (i := 16) rfl)
theorem td_86_31 : decode prog_1_method_7_code 31 = .ok (.ireturn, 1) := tb_b86_ok (31, .ireturn, 1) (List.mem_of_getElem? (i := 17) rfl)
theorem td_109_0 : decode prog_1_method_14_code 0 = .ok ((.iload_n 1), 1) := tb_b109_ok (0, (.iload_n 1), 1) (List.mem_of_getElem? (i := 0) rfl)
theorem td_109_1 : decode prog_1_method_14_code 1 = .ok ((.invokestatic 115), 3) := tb_b109_ok (1, (.invokestatic 115), 3) (List.mem_of_getElem? (i := 1) rfl)
theorem td_109_4 : decode prog_1_method_14_code 4 = .ok ((.ifCond .ne (5)), 3) := tb_b109_ok (4, (.ifCond .ne (5)), 3) (List.mem_of_getElem? (i := 2) rfl)
theorem td_109_7 : decode prog_1_method_14_code 7 = .ok ((.iconst (0)), 1) := tb_b109_ok (7, (.iconst (0)), 1) (List.mem_of_getElem? (i := 3) rfl)
theorem td_109_8 : decode prog_1_method_14_code 8 = .ok (.ireturn, 1) := tb_b109_ok (8, .ireturn, 1) (List.mem_of_getElem? (i := 4) rfl)
theorem td_109_9 : decode prog_1_method_14_code 9 = .ok ((.aload_n 0), 1) := tb_b109_ok (9, (.aload_n 0), 1) (List.mem_of_getElem? (i := 5) rfl)
theorem td_109_10 : decode prog_1_method_14_code 10 = .ok ((.getfield 37), 3) := tb_b109_ok (10, (.getfield 37), 3) (List.mem_of_getElem? (i := 6) rfl)
theorem td_109_13 : decode prog_1_method_14_code 13 = .ok ((.iload_n 1), 1) := tb_b109_ok (13, (.iload_n 1), 1) (List.mem_of_getElem? (i := 7) rfl)
theorem td_109_14 : decode prog_1_method_14_code 14 = .ok ((.iload_n 2), 1) := tb_b109_ok (14, (.iload_n 2), 1) (List.mem_of_getElem? (i := 8) rfl)
theorem td_109_15 : decode prog_1_method_14_code 15 = .ok ((.invokevirtual 174), 3) := tb_b109_ok (15, (.invokevirtual 174), 3) (List.mem_of_getElem? (i := 9) rfl)
theorem td_109_18 : decode prog_1_method_14_code 18 = .ok ((.iconst (1)), 1) := tb_b109_ok (18, (.iconst (1)), 1) (List.mem_of_getElem? (i := 10) rfl)
theorem td_109_19 : decode prog_1_method_14_code 19 = .ok (.ireturn, 1) := tb_b109_ok (19, .ireturn, 1) (List.mem_of_getElem? (i := 11) rfl)
theorem td_110_0 : decode prog_6_method_2_code 0 = .ok ((.aload_n 0), 1) := tb_b110_ok (0, (.aload_n 0), 1) (List.mem_of_getElem? (i := 0) rfl)
theorem td_110_1 : decode prog_6_method_2_code 1 = .ok ((.getfield 18), 3) := tb_b110_ok (1, (.getfield 18), 3) (List.mem_of_getElem? (i := 1) rfl)
theorem td_110_4 : decode prog_6_method_2_code 4 = .ok ((.iload_n 1), 1) := tb_b110_ok (4, (.iload_n 1), 1) (List.mem_of_getElem? (i := 2) rfl)
theorem td_110_5 : decode prog_6_method_2_code 5 = .ok ((.iload_n 2), 1) := tb_b110_ok (5, (.iload_n 2), 1) (List.mem_of_getElem? (i := 3) rfl)
theorem td_110_6 : decode prog_6_method_2_code 6 = .ok (.iastore, 1) := tb_b110_ok (6, .iastore, 1) (List.mem_of_getElem? (i := 4) rfl)
theorem td_110_7 : decode prog_6_method_2_code 7 = .ok (.return_, 1) := tb_b110_ok (7, .return_, 1) (List.mem_of_getElem? (i := 5) rfl)
theorem td_132_0 : decode prog_1_method_18_code 0 = .ok ((.iload_n 1), 1) := tb_b132_ok (0, (.iload_n 1), 1) (List.mem_of_getElem? (i := 0) rfl)
theorem td_132_1 : decode prog_1_method_18_code 1 = .ok ((.invokestatic 115), 3) := tb_b132_ok (1, (.invokestatic 115), 3) (List.mem_of_getElem? (i := 1) rfl)
theorem td_132_4 : decode prog_1_method_18_code 4 = .ok ((.ifCond .eq (18)), 3) := tb_b132_ok (4, (.ifCond .eq (18)), 3) (List.mem_of_getElem? (i := 2) rfl)
theorem td_132_7 : decode prog_1_method_18_code 7 = .ok ((.aload_n 0), 1) := tb_b132_ok (7, (.aload_n 0), 1) (List.mem_of_getElem? (i := 3) rfl)
theorem td_132_8 : decode prog_1_method_18_code 8 = .ok ((.getfield 37), 3) := tb_b132_ok (8, (.getfield 37), 3) (List.mem_of_getElem? (i := 4) rfl)
theorem td_132_11 : decode prog_1_method_18_code 11 = .ok ((.getfield 187), 3) := tb_b132_ok (11, (.getfield 187), 3) (List.mem_of_getElem? (i := 5) rfl)
theorem td_132_14 : decode prog_1_method_18_code 14 = .ok ((.iload_n 1), 1) := tb_b132_ok (14, (.iload_n 1), 1) (List.mem_of_getElem? (i := 6) rfl)
theorem td_132_15 : decode prog_1_method_18_code 15 = .ok ((.iload_n 2), 1) := tb_b132_ok (15, (.iload_n 2), 1) (List.mem_of_getElem? (i := 7) rfl)
theorem td_132_16 : decode prog_1_method_18_code 16 = .ok ((.invokevirtual 196), 3) := tb_b132_ok (16, (.invokevirtual 196), 3) (List.mem_of_getElem? (i := 8) rfl)
theorem td_132_19 : decode prog_1_method_18_code 19 = .ok ((.goto (4)), 3) := tb_b132_ok (19, (.goto (4)), 3) (List.mem_of_getElem? (i := 9) rfl)
theorem td_132_22 : decode prog_1_method_18_code 22 = .ok ((.iconst (0)), 1) := tb_b132_ok (22, (.iconst (0)), 1) (List.mem_of_getElem? (i := 10) rfl)
theorem td_132_23 : decode prog_1_method_18_code 23 = .ok (.ireturn, 1) := tb_b132_ok (23, .ireturn, 1) (List.mem_of_getElem? (i := 11) rfl)
theorem td_133_0 : decode prog_5_method_6_code 0 = .ok ((.aload_n 0), 1) := tb_b133_ok (0, (.aload_n 0), 1) (List.mem_of_getElem? (i := 0) rfl)
theorem td_133_1 : decode prog_5_method_6_code 1 = .ok ((.getfield 18), 3) := tb_b133_ok (1, (.getfield 18), 3) (List.mem_of_getElem? (i := 1) rfl)
theorem td_133_4 : decode prog_5_method_6_code 4 = .ok ((.iload_n 1), 1) := tb_b133_ok (4, (.iload_n 1), 1) (List.mem_of_getElem? (i := 2) rfl)
theorem td_133_5 : decode prog_5_method_6_code 5 = .ok (.iaload, 1) := tb_b133_ok (5, .iaload, 1) (List.mem_of_getElem? (i := 3) rfl)
theorem td_133_6 : decode prog_5_method_6_code 6 = .ok ((.istore_n 3), 1) := tb_b133_ok (6, (.istore_n 3), 1) (List.mem_of_getElem? (i := 4) rfl)
theorem td_133_7 : decode prog_5_method_6_code 7 = .ok ((.iload_n 2), 1) := tb_b133_ok (7, (.iload_n 2), 1) (List.mem_of_getElem? (i := 5) rfl)
theorem td_133_8 : decode prog_5_method_6_code 8 = .ok ((.iconst (-1)), 1) := tb_b133_ok (8, (.iconst (-1)), 1) (List.mem_of_getElem? (i := 6) rfl)
theorem td_133_9 : decode prog_5_method_6_code 9 = .ok ((.if_icmp .ne (5)), 3) := tb_b133_ok (9, (.if_icmp .ne (5)), 3) (List.mem_of_getElem? (i := 7) rfl)
theorem td_133_12 : decode prog_5_method_6_code 12 = .ok ((.iload_n 3), 1) := tb_b133_ok (12, (.iload_n 3), 1) (List.mem_of_getElem? (i := 8) rfl)
theorem td_133_13 : decode prog_5_method_6_code 13 = .ok (.ireturn, 1) := tb_b133_ok (13, .ireturn, 1) (List.mem_of_getElem? (i := 9) rfl)
theorem td_133_14 : decode prog_5_method_6_code 14 = .ok ((.iload_n 2), 1) := tb_b133_ok (14, (.iload_n 2), 1) (List.mem_of_getElem? (i := 10) rfl)
theorem td_133_15 : decode prog_5_method_6_code 15 = .ok ((.ifCond .lt (28)), 3) := tb_b133_ok (15, (.ifCond .lt (28)), 3) (List.mem_of_getElem? (i := 11) rfl)
theorem td_133_18 : decode prog_5_method_6_code 18 = .ok ((.iload_n 2), 1) := tb_b133_ok (18, (.iload_n 2), 1) (List.mem_of_getElem? (i := 12) rfl)
theorem td_133_19 : decode prog_5_method_6_code 19 = .ok ((.iload_n 3), 1) := tb_b133_ok (19, (.iload_n 3), 1) (List.mem_of_getElem? (i := 13) rfl)
theorem td_133_20 : decode prog_5_method_6_code 20 = .ok ((.if_icmp .ge (23)), 3) := tb_b133_ok (20, (.if_icmp .ge (23)), 3) (List.mem_of_getElem? (i := 14) rfl)
theorem td_133_23 : decode prog_5_method_6_code 23 = .ok ((.iload_n 2), 1) := tb_b133_ok (23, (.iload_n 2), 1) (List.mem_of_getElem? (i := 15) rfl)
theorem td_133_24 : decode prog_5_method_6_code 24 = .ok ((.bipush (40)), 2) := tb_b133_ok (24, (.bipush (40)), 2) (List.mem_of_getElem? (i := 16) rfl)
theorem td_133_26 : decode prog_5_method_6_code 26 = .ok ((.if_icmp .ge (17)), 3) := tb_b133_ok (26, (.if_icmp .ge (17)), 3) (List.mem_of_getElem? (i := 17) rfl)
theorem td_133_29 : decode prog_5_method_6_code 29 = .ok ((.aload_n 0), 1) := tb_b133_ok (29, (.aload_n 0), 1) (List.mem_of_getElem? (i := 18) rfl)
theorem td_133_30 : decode prog_5_method_6_code 30 = .ok ((.getfield 15), 3) := tb_b133_ok (30, (.getfield 15), 3) (List.mem_of_getElem? (i := 19) rfl)
theorem td_133_33 : decode prog_5_method_6_code 33 = .ok ((.iload_n 1), 1) := tb_b133_ok (33, (.iload_n 1), 1) (List.mem_of_getElem? (i := 20) rfl)
theorem td_133_34 : decode prog_5_method_6_code 34 = .ok ((.bipush (40)), 2) := tb_b133_ok (34, (.bipush (40)), 2) (List.mem_of_getElem? (i := 21) rfl)
theorem td_133_36 : decode prog_5_method_6_code 36 = .ok (.imul, 1) := tb_b133_ok (36, .imul, 1) (List.mem_of_getElem? (i := 22) rfl)
theorem td_133_37 : decode prog_5_method_6_code 37 = .ok ((.iload_n 2), 1) := tb_b133_ok (37, (.iload_n 2), 1) (List.mem_of_getElem? (i := 23) rfl)
theorem td_133_38 : decode prog_5_method_6_code 38 = .ok (.iadd, 1) := tb_b133_ok (38, .iadd, 1) (List.mem_of_getElem? (i := 24) rfl)
theorem td_133_39 : decode prog_5_method_6_code 39 = .ok (.iaload, 1) := tb_b133_ok (39, .iaload, 1) (List.mem_of_getElem? (i := 25) rfl)
theorem td_133_40 : decode prog_5_method_6_code 40 = .ok ((.goto (4)), 3) := tb_b133_ok (40, (.goto (4)), 3) (List.mem_of_getElem? (i := 26) rfl)
theorem td_133_43 : decode prog_5_method_6_code 43 = .ok ((.iconst (0)), 1) := tb_b133_ok (43, (.iconst (0)), 1) (List.mem_of_getElem? (i := 27) rfl)
theorem td_133_44 : decode prog_5_method_6_code 44 = .ok (.ireturn, 1) := tb_b133_ok (44, .ireturn, 1) (List.mem_of_getElem? (i := 28) rfl)
theorem td_183_0 : decode prog_12_method_42_code 0 = .ok ((.iload_n 1), 1) := tb_b183_ok (0, (.iload_n 1), 1) (List.mem_of_getElem? (i := 0) rfl)
theorem td_183_1 : decode prog_12_method_42_code 1 = .ok ((.invokestatic 107), 3) := tb_b183_ok (1, (.invokestatic 107), 3) (List.mem_of_getElem? (i := 1) rfl)
theorem td_183_4 : decode prog_12_method_42_code 4 = .ok ((.ifCond .ne (5)), 3) := tb_b183_ok (4, (.ifCond .ne (5)), 3) (List.mem_of_getElem? (i := 2) rfl)
theorem td_183_7 : decode prog_12_method_42_code 7 = .ok ((.iconst (0)), 1) := tb_b183_ok (7, (.iconst (0)), 1) (List.mem_of_getElem? (i := 3) rfl)
theorem td_183_8 : decode prog_12_method_42_code 8 = .ok (.ireturn, 1) := tb_b183_ok (8, .ireturn, 1) (List.mem_of_getElem? (i := 4) rfl)
theorem td_183_9 : decode prog_12_method_42_code 9 = .ok ((.aload_n 0), 1) := tb_b183_ok (9, (.aload_n 0), 1) (List.mem_of_getElem? (i := 5) rfl)
theorem td_183_10 : decode prog_12_method_42_code 10 = .ok ((.getfield 65), 3) := tb_b183_ok (10, (.getfield 65), 3) (List.mem_of_getElem? (i := 6) rfl)
theorem td_183_13 : decode prog_12_method_42_code 13 = .ok ((.iload_n 1), 1) := tb_b183_ok (13, (.iload_n 1), 1) (List.mem_of_getElem? (i := 7) rfl)
theorem td_183_14 : decode prog_12_method_42_code 14 = .ok ((.iload_n 2), 1) := tb_b183_ok (14, (.iload_n 2), 1) (List.mem_of_getElem? (i := 8) rfl)
theorem td_183_15 : decode prog_12_method_42_code 15 = .ok (.iastore, 1) := tb_b183_ok (15, .iastore, 1) (List.mem_of_getElem? (i := 9) rfl)
theorem td_183_16 : decode prog_12_method_42_code 16 = .ok ((.iconst (1)), 1) := tb_b183_ok (16, (.iconst (1)), 1) (List.mem_of_getElem? (i := 10) rfl)
theorem td_183_17 : decode prog_12_method_42_code 17 = .ok (.ireturn, 1) := tb_b183_ok (17, .ireturn, 1) (List.mem_of_getElem? (i := 11) rfl)
theorem td_195_0 : decode prog_12_method_54_code 0 = .ok ((.iload_n 1), 1) := tb_b195_ok (0, (.iload_n 1), 1) (List.mem_of_getElem? (i := 0) rfl)
theorem td_195_1 : decode prog_12_method_54_code 1 = .ok ((.iconst (1)), 1) := tb_b195_ok (1, (.iconst (1)), 1) (List.mem_of_getElem? (i := 1) rfl)
theorem td_195_2 : decode prog_12_method_54_code 2 = .ok ((.if_icmp .lt (8)), 3) := tb_b195_ok (2, (.if_icmp .lt (8)), 3) (List.mem_of_getElem? (i := 2) rfl)
theorem td_195_5 : decode prog_12_method_54_code 5 = .ok ((.iload_n 1), 1) := tb_b195_ok (5, (.iload_n 1), 1) (List.mem_of_getElem? (i := 3) rfl)
theorem td_195_6 : decode prog_12_method_54_code 6 = .ok ((.iconst (5)), 1) := tb_b195_ok (6, (.iconst (5)), 1) (List.mem_of_getElem? (i := 4) rfl)
theorem td_195_7 : decode prog_12_method_54_code 7 = .ok ((.if_icmp .le (5)), 3) := tb_b195_ok (7, (.if_icmp .le (5)), 3) (List.mem_of_getElem? (i := 5) rfl)
theorem td_195_10 : decode prog_12_method_54_code 10 = .ok ((.iconst (0)), 1) := tb_b195_ok (10, (.iconst (0)), 1) (List.mem_of_getElem? (i := 6) rfl)
theorem td_195_11 : decode prog_12_method_54_code 11 = .ok (.ireturn, 1) := tb_b195_ok (11, .ireturn, 1) (List.mem_of_getElem? (i := 7) rfl)
theorem td_195_12 : decode prog_12_method_54_code 12 = .ok ((.aload_n 0), 1) := tb_b195_ok (12, (.aload_n 0), 1) (List.mem_of_getElem? (i := 8) rfl)
theorem td_195_13 : decode prog_12_method_54_code 13 = .ok ((.iload_n 1), 1) := tb_b195_ok (13, (.iload_n 1), 1) (List.mem_of_getElem? (i := 9) rfl)
theorem td_195_14 : decode prog_12_method_54_code 14 = .ok ((.putfield 86), 3) := tb_b195_ok (14, (.putfield 86), 3) (List.mem_of_getElem? (i := 10) rfl)
theorem td_195_17 : decode prog_12_method_54_code 17 = .ok ((.iconst (0)), 1) := tb_b195_ok (17, (.iconst (0)), 1) (List.mem_of_getElem? (i := 11) rfl)
theorem td_195_18 : decode prog_12_method_54_code 18 = .ok ((.istore_n 2), 1) := tb_b195_ok (18, (.istore_n 2), 1) (List.mem_of_getElem? (i := 12) rfl)
theorem td_195_19 : decode prog_12_method_54_code 19 = .ok ((.iload_n 2), 1) := tb_b195_ok (19, (.iload_n 2), 1) (List.mem_of_getElem? (i := 13) rfl)
theorem td_195_20 : decode prog_12_method_54_code 20 = .ok ((.bipush (25)), 2) := tb_b195_ok (20, (.bipush (25)), 2) (List.mem_of_getElem? (i := 14) rfl)
theorem td_195_22 : decode prog_12_method_54_code 22 = .ok ((.if_icmp .ge (29)), 3) := tb_b195_ok (22, (.if_icmp .ge (29)), 3) (List.mem_of_getElem? (i := 15) rfl)
theorem td_195_25 : decode prog_12_method_54_code 25 = .ok ((.aload_n 0), 1) := tb_b195_ok (25, (.aload_n 0), 1) (List.mem_of_getElem? (i := 16) rfl)
theorem td_195_26 : decode prog_12_method_54_code 26 = .ok ((.getfield 90), 3) := tb_b195_ok (26, (.getfield 90), 3) (List.mem_of_getElem? (i := 17) rfl)
theorem td_195_29 : decode prog_12_method_54_code 29 = .ok ((.iload_n 2), 1) := tb_b195_ok (29, (.iload_n 2), 1) (List.mem_of_getElem? (i := 18) rfl)
theorem td_195_30 : decode prog_12_method_54_code 30 = .ok ((.iload_n 2), 1) := tb_b195_ok (30, (.iload_n 2), 1) (List.mem_of_getElem? (i := 19) rfl)
theorem td_195_31 : decode prog_12_method_54_code 31 = .ok ((.iconst (5)), 1) := tb_b195_ok (31, (.iconst (5)), 1) (List.mem_of_getElem? (i := 20) rfl)
theorem td_195_32 : decode prog_12_method_54_code 32 = .ok (.idiv, 1) := tb_b195_ok (32, .idiv, 1) (List.mem_of_getElem? (i := 21) rfl)
theorem td_195_33 : decode prog_12_method_54_code 33 = .ok ((.iload_n 2), 1) := tb_b195_ok (33, (.iload_n 2), 1) (List.mem_of_getElem? (i := 22) rfl)
theorem td_195_34 : decode prog_12_method_54_code 34 = .ok ((.iconst (5)), 1) := tb_b195_ok (34, (.iconst (5)), 1) (List.mem_of_getElem? (i := 23) rfl)
theorem td_195_35 : decode prog_12_method_54_code 35 = .ok (.irem, 1) := tb_b195_ok (35, .irem, 1) (List.mem_of_getElem? (i := 24) rfl)
theorem td_195_36 : decode prog_12_method_54_code 36 = .ok ((.if_icmp .ne (7)), 3) := tb_b195_ok (36, (.if_icmp .ne (7)), 3) (List.mem_of_getElem? (i := 25) rfl)
theorem td_195_39 : decode prog_12_method_54_code 39 = .ok ((.iconst (1)), 1) := tb_b195_ok (39, (.iconst (1)), 1) (List.mem_of_getElem? (i := 26) rfl)
theorem td_195_40 : decode prog_12_method_54_code 40 = .ok ((.goto (4)), 3) := tb_b195_ok (40, (.goto (4)), 3) (List.mem_of_getElem? (i := 27) rfl)
theorem td_195_43 : decode prog_12_method_54_code 43 = .ok ((.iconst (0)), 1) := tb_b195_ok (43, (.iconst (0)), 1) (List.mem_of_getElem? (i := 28) rfl)
theorem td_195_44 : decode prog_12_method_54_code 44 = .ok (.bastore, 1) := tb_b195_ok (44, .bastore, 1) (List.mem_of_getElem? (i := 29) rfl)
theorem td_195_45 : decode prog_12_method_54_code 45 = .ok ((.iinc 2 (1)), 3) := tb_b195_ok (45, (.iinc 2 (1)), 3) (List.mem_of_getElem? (i := 30) rfl)
theorem td_195_48 : decode prog_12_method_54_code 48 = .ok ((.goto (-29)), 3) := tb_b195_ok (48, (.goto (-29)), 3) (List.mem_of_getElem? (i := 31) rfl)
theorem td_195_51 : decode prog_12_method_54_code 51 = .ok ((.iconst (0)), 1) := tb_b195_ok (51, (.iconst (0)), 1) (List.mem_of_getElem? (i := 32) rfl)
theorem td_195_52 : decode prog_12_method_54_code 52 = .ok ((.istore_n 2), 1) := tb_b195_ok (52, (.istore_n 2), 1) (List.mem_of_getElem? (i := 33) rfl)
theorem td_195_53 : decode prog_12_method_54_code 53 = .ok ((.iload_n 2), 1) := tb_b195_ok (53, (.iload_n 2), 1) (List.mem_of_getElem? (i := 34) rfl)
theorem td_195_54 : decode prog_12_method_54_code 54 = .ok ((.iconst (4)), 1) := tb_b195_ok (54, (.iconst (4)), 1) (List.mem_of_getElem? (i := 35) rfl)
theorem td_195_55 : decode prog_12_method_54_code 55 = .ok ((.if_icmp .ge (23)), 3) := tb_b195_ok (55, (.if_icmp .ge (23)), 3) (List.mem_of_getElem? (i := 36) rfl)
theorem td_195_58 : decode prog_12_method_54_code 58 = .ok ((.aload_n 0), 1) := tb_b195_ok (58, (.aload_n 0), 1) (List.mem_of_getElem? (i := 37) rfl)
theorem td_195_59 : decode prog_12_method_54_code 59 = .ok ((.getfield 94), 3) := tb_b195_ok (59, (.getfield 94), 3) (List.mem_of_getElem? (i := 38) rfl)
theorem td_195_62 : decode prog_12_method_54_code 62 = .ok ((.iload_n 2), 1) := tb_b195_ok (62, (.iload_n 2), 1) (List.mem_of_getElem? (i := 39) rfl)
theorem td_195_63 : decode prog_12_method_54_code 63 = .ok ((.iconst (0)), 1) := tb_b195_ok (63, (.iconst (0)), 1) (List.mem_of_getElem? (i := 40) rfl)
theorem td_195_64 : decode prog_12_method_54_code 64 = .ok (.iastore, 1) := tb_b195_ok (64, .iastore, 1) (List.mem_of_getElem? (i := 41) rfl)
theorem td_195_65 : decode prog_12_method_54_code 65 = .ok ((.aload_n 0), 1) := tb_b195_ok (65, (.aload_n 0), 1) (List.mem_of_getElem? (i := 42) rfl)
theorem td_195_66 : decode prog_12_method_54_code 66 = .ok ((.getfield 97), 3) := tb_b195_ok (66, (.getfield 97), 3) (List.mem_of_getElem? (i := 43) rfl)
theorem td_195_69 : decode prog_12_method_54_code 69 = .ok ((.iload_n 2), 1) := tb_b195_ok (69, (.iload_n 2), 1) (List.mem_of_getElem? (i := 44) rfl)
theorem td_195_70 : decode prog_12_method_54_code 70 = .ok ((.iconst (0)), 1) := tb_b195_ok (70, (.iconst (0)), 1) (List.mem_of_getElem? (i := 45) rfl)
theorem td_195_71 : decode prog_12_method_54_code 71 = .ok (.iastore, 1) := tb_b195_ok (71, .iastore, 1) (List.mem_of_getElem? (i := 46) rfl)
theorem td_195_72 : decode prog_12_method_54_code 72 = .ok ((.iinc 2 (1)), 3) := tb_b195_ok (72, (.iinc 2 (1)), 3) (List.mem_of_getElem? (i := 47) rfl)
theorem td_195_75 : decode prog_12_method_54_code 75 = .ok ((.goto (-22)), 3) := tb_b195_ok (75, (.goto (-22)), 3) (List.mem_of_getElem? (i := 48) rfl)
theorem td_195_78 : decode prog_12_method_54_code 78 = .ok ((.iconst (1)), 1) := tb_b195_ok (78, (.iconst (1)), 1) (List.mem_of_getElem? (i := 49) rfl)
theorem td_195_79 : decode prog_12_method_54_code 79 = .ok (.ireturn, 1) := tb_b195_ok (79, .ireturn, 1) (List.mem_of_getElem? (i := 50) rfl)
theorem td_196_0 : decode prog_12_method_56_code 0 = .ok ((.aload_n 0), 1) := tb_b196_ok (0, (.aload_n 0), 1) (List.mem_of_getElem? (i := 0) rfl)
theorem td_196_1 : decode prog_12_method_56_code 1 = .ok ((.iload_n 1), 1) := tb_b196_ok (1, (.iload_n 1), 1) (List.mem_of_getElem? (i := 1) rfl)
theorem td_196_2 : decode prog_12_method_56_code 2 = .ok ((.invokevirtual 260), 3) := tb_b196_ok (2, (.invokevirtual 260), 3) (List.mem_of_getElem? (i := 2) rfl)
theorem td_196_5 : decode prog_12_method_56_code 5 = .ok ((.ifCond .eq (11)), 3) := tb_b196_ok (5, (.ifCond .eq (11)), 3) (List.mem_of_getElem? (i := 3) rfl)
theorem td_196_8 : decode prog_12_method_56_code 8 = .ok ((.aload_n 0), 1) := tb_b196_ok (8, (.aload_n 0), 1) (List.mem_of_getElem? (i := 4) rfl)
theorem td_196_9 : decode prog_12_method_56_code 9 = .ok ((.iload_n 2), 1) := tb_b196_ok (9, (.iload_n 2), 1) (List.mem_of_getElem? (i := 5) rfl)
theorem td_196_10 : decode prog_12_method_56_code 10 = .ok ((.invokevirtual 260), 3) := tb_b196_ok (10, (.invokevirtual 260), 3) (List.mem_of_getElem? (i := 6) rfl)
theorem td_196_13 : decode prog_12_method_56_code 13 = .ok ((.ifCond .ne (5)), 3) := tb_b196_ok (13, (.ifCond .ne (5)), 3) (List.mem_of_getElem? (i := 7) rfl)
theorem td_196_16 : decode prog_12_method_56_code 16 = .ok ((.iconst (0)), 1) := tb_b196_ok (16, (.iconst (0)), 1) (List.mem_of_getElem? (i := 8) rfl)
theorem td_196_17 : decode prog_12_method_56_code 17 = .ok (.ireturn, 1) := tb_b196_ok (17, .ireturn, 1) (List.mem_of_getElem? (i := 9) rfl)
theorem td_196_18 : decode prog_12_method_56_code 18 = .ok ((.aload_n 0), 1) := tb_b196_ok (18, (.aload_n 0), 1) (List.mem_of_getElem? (i := 10) rfl)
theorem td_196_19 : decode prog_12_method_56_code 19 = .ok ((.getfield 90), 3) := tb_b196_ok (19, (.getfield 90), 3) (List.mem_of_getElem? (i := 11) rfl)
theorem td_196_22 : decode prog_12_method_56_code 22 = .ok ((.iconst (5)), 1) := tb_b196_ok (22, (.iconst (5)), 1) (List.mem_of_getElem? (i := 12) rfl)
theorem td_196_23 : decode prog_12_method_56_code 23 = .ok ((.iload_n 1), 1) := tb_b196_ok (23, (.iload_n 1), 1) (List.mem_of_getElem? (i := 13) rfl)
theorem td_196_24 : decode prog_12_method_56_code 24 = .ok (.imul, 1) := tb_b196_ok (24, .imul, 1) (List.mem_of_getElem? (i := 14) rfl)
theorem td_196_25 : decode prog_12_method_56_code 25 = .ok ((.iload_n 2), 1) := tb_b196_ok (25, (.iload_n 2), 1) (List.mem_of_getElem? (i := 15) rfl)
theorem td_196_26 : decode prog_12_method_56_code 26 = .ok (.iadd, 1) := tb_b196_ok (26, .iadd, 1) (List.mem_of_getElem? (i := 16) rfl)
theorem td_196_27 : decode prog_12_method_56_code 27 = .ok ((.iconst (1)), 1) := tb_b196_ok (27, (.iconst (1)), 1) (List.mem_of_getElem? (i := 17) rfl)
theorem td_196_28 : decode prog_12_method_56_code 28 = .ok (.bastore, 1) := tb_b196_ok (28, .bastore, 1) (List.mem_of_getElem? (i := 18) rfl)
theorem td_196_29 : decode prog_12_method_56_code 29 = .ok ((.iconst (0)), 1) := tb_b196_ok (29, (.iconst (0)), 1) (List.mem_of_getElem? (i := 19) rfl)
theorem td_196_30 : decode prog_12_method_56_code 30 = .ok ((.istore_n 3), 1) := tb_b196_ok (30, (.istore_n 3), 1) (List.mem_of_getElem? (i := 20) rfl)
theorem td_196_31 : decode prog_12_method_56_code 31 = .ok ((.iload_n 3), 1) := tb_b196_ok (31, (.iload_n 3), 1) (List.mem_of_getElem? (i := 21) rfl)
theorem td_196_32 : decode prog_12_method_56_code 32 = .ok ((.aload_n 0), 1) := tb_b196_ok (32, (.aload_n 0), 1) (List.mem_of_getElem? (i := 22) rfl)
theorem td_196_33 : decode prog_12_method_56_code 33 = .ok ((.getfield 86), 3) := tb_b196_ok (33, (.getfield 86), 3) (List.mem_of_getElem? (i := 23) rfl)
theorem td_196_36 : decode prog_12_method_56_code 36 = .ok ((.if_icmp .ge (105)), 3) := tb_b196_ok (36, (.if_icmp .ge (105)), 3) (List.mem_of_getElem? (i := 24) rfl)
theorem td_196_39 : decode prog_12_method_56_code 39 = .ok ((.iconst (0)), 1) := tb_b196_ok (39, (.iconst (0)), 1) (List.mem_of_getElem? (i := 25) rfl)
theorem td_196_40 : decode prog_12_method_56_code 40 = .ok ((.istore 4), 2) := tb_b196_ok (40, (.istore 4), 2) (List.mem_of_getElem? (i := 26) rfl)
theorem td_196_42 : decode prog_12_method_56_code 42 = .ok ((.iload 4), 2) := tb_b196_ok (42, (.iload 4), 2) (List.mem_of_getElem? (i := 27) rfl)
theorem td_196_44 : decode prog_12_method_56_code 44 = .ok ((.aload_n 0), 1) := tb_b196_ok (44, (.aload_n 0), 1) (List.mem_of_getElem? (i := 28) rfl)
theorem td_196_45 : decode prog_12_method_56_code 45 = .ok ((.getfield 86), 3) := tb_b196_ok (45, (.getfield 86), 3) (List.mem_of_getElem? (i := 29) rfl)
theorem td_196_48 : decode prog_12_method_56_code 48 = .ok ((.if_icmp .ge (87)), 3) := tb_b196_ok (48, (.if_icmp .ge (87)), 3) (List.mem_of_getElem? (i := 30) rfl)
theorem td_196_51 : decode prog_12_method_56_code 51 = .ok ((.iconst (0)), 1) := tb_b196_ok (51, (.iconst (0)), 1) (List.mem_of_getElem? (i := 31) rfl)
theorem td_196_52 : decode prog_12_method_56_code 52 = .ok ((.istore 5), 2) := tb_b196_ok (52, (.istore 5), 2) (List.mem_of_getElem? (i := 32) rfl)
theorem td_196_54 : decode prog_12_method_56_code 54 = .ok ((.iload 5), 2) := tb_b196_ok (54, (.iload 5), 2) (List.mem_of_getElem? (i := 33) rfl)
theorem td_196_56 : decode prog_12_method_56_code 56 = .ok ((.aload_n 0), 1) := tb_b196_ok (56, (.aload_n 0), 1) (List.mem_of_getElem? (i := 34) rfl)
theorem td_196_57 : decode prog_12_method_56_code 57 = .ok ((.getfield 86), 3) := tb_b196_ok (57, (.getfield 86), 3) (List.mem_of_getElem? (i := 35) rfl)
theorem td_196_60 : decode prog_12_method_56_code 60 = .ok ((.if_icmp .ge (69)), 3) := tb_b196_ok (60, (.if_icmp .ge (69)), 3) (List.mem_of_getElem? (i := 36) rfl)
theorem td_196_63 : decode prog_12_method_56_code 63 = .ok ((.aload_n 0), 1) := tb_b196_ok (63, (.aload_n 0), 1) (List.mem_of_getElem? (i := 37) rfl)
theorem td_196_64 : decode prog_12_method_56_code 64 = .ok ((.getfield 90), 3) := tb_b196_ok (64, (.getfield 90), 3) (List.mem_of_getElem? (i := 38) rfl)
theorem td_196_67 : decode prog_12_method_56_code 67 = .ok ((.iconst (5)), 1) := tb_b196_ok (67, (.iconst (5)), 1) (List.mem_of_getElem? (i := 39) rfl)
theorem td_196_68 : decode prog_12_method_56_code 68 = .ok ((.iload 4), 2) := tb_b196_ok (68, (.iload 4), 2) (List.mem_of_getElem? (i := 40) rfl)
theorem td_196_70 : decode prog_12_method_56_code 70 = .ok (.imul, 1) := tb_b196_ok (70, .imul, 1) (List.mem_of_getElem? (i := 41) rfl)
theorem td_196_71 : decode prog_12_method_56_code 71 = .ok ((.iload 5), 2) := tb_b196_ok (71, (.iload 5), 2) (List.mem_of_getElem? (i := 42) rfl)
theorem td_196_73 : decode prog_12_method_56_code 73 = .ok (.iadd, 1) := tb_b196_ok (73, .iadd, 1) (List.mem_of_getElem? (i := 43) rfl)
theorem td_196_74 : decode prog_12_method_56_code 74 = .ok ((.aload_n 0), 1) := tb_b196_ok (74, (.aload_n 0), 1) (List.mem_of_getElem? (i := 44) rfl)
theorem td_196_75 : decode prog_12_method_56_code 75 = .ok ((.getfield 90), 3) := tb_b196_ok (75, (.getfield 90), 3) (List.mem_of_getElem? (i := 45) rfl)
theorem td_196_78 : decode prog_12_method_56_code 78 = .ok ((.iconst (5)), 1) := tb_b196_ok (78, (.iconst (5)), 1) (List.mem_of_getElem? (i := 46) rfl)
theorem td_196_79 : decode prog_12_method_56_code 79 = .ok ((.iload 4), 2) := tb_b196_ok (79, (.iload 4), 2) (List.mem_of_getElem? (i := 47) rfl)
theorem td_196_81 : decode prog_12_method_56_code 81 = .ok (.imul, 1) := tb_b196_ok (81, .imul, 1) (List.mem_of_getElem? (i := 48) rfl)
theorem td_196_82 : decode prog_12_method_56_code 82 = .ok ((.iload 5), 2) := tb_b196_ok (82, (.iload 5), 2) (List.mem_of_getElem? (i := 49) rfl)
theorem td_196_84 : decode prog_12_method_56_code 84 = .ok (.iadd, 1) := tb_b196_ok (84, .iadd, 1) (List.mem_of_getElem? (i := 50) rfl)
theorem td_196_85 : decode prog_12_method_56_code 85 = .ok (.baload, 1) := tb_b196_ok (85, .baload, 1) (List.mem_of_getElem? (i := 51) rfl)
theorem td_196_86 : decode prog_12_method_56_code 86 = .ok ((.ifCond .ne (31)), 3) := tb_b196_ok (86, (.ifCond .ne (31)), 3) (List.mem_of_getElem? (i := 52) rfl)
theorem td_196_89 : decode prog_12_method_56_code 89 = .ok ((.aload_n 0), 1) := tb_b196_ok (89, (.aload_n 0), 1) (List.mem_of_getElem? (i := 53) rfl)
theorem td_196_90 : decode prog_12_method_56_code 90 = .ok ((.getfield 90), 3) := tb_b196_ok (90, (.getfield 90), 3) (List.mem_of_getElem? (i := 54) rfl)
theorem td_196_93 : decode prog_12_method_56_code 93 = .ok ((.iconst (5)), 1) := tb_b196_ok (93, (.iconst (5)), 1) (List.mem_of_getElem? (i := 55) rfl)
theorem td_196_94 : decode prog_12_method_56_code 94 = .ok ((.iload 4), 2) := tb_b196_ok (94, (.iload 4), 2) (List.mem_of_getElem? (i := 56) rfl)
theorem td_196_96 : decode prog_12_method_56_code 96 = .ok (.imul, 1) := tb_b196_ok (96, .imul, 1) (List.mem_of_getElem? (i := 57) rfl)
theorem td_196_97 : decode prog_12_method_56_code 97 = .ok ((.iload_n 3), 1) := tb_b196_ok (97, (.iload_n 3), 1) (List.mem_of_getElem? (i := 58) rfl)
theorem td_196_98 : decode prog_12_method_56_code 98 = .ok (.iadd, 1) := tb_b196_ok (98, .iadd, 1) (List.mem_of_getElem? (i := 59) rfl)
theorem td_196_99 : decode prog_12_method_56_code 99 = .ok (.baload, 1) := tb_b196_ok (99, .baload, 1) (List.mem_of_getElem? (i := 60) rfl)
theorem td_196_100 : decode prog_12_method_56_code 100 = .ok ((.ifCond .eq (21)), 3) := tb_b196_ok (100, (.ifCond .eq (21)), 3) (List.mem_of_getElem? (i := 61) rfl)
theorem td_196_103 : decode prog_12_method_56_code 103 = .ok ((.aload_n 0), 1) := tb_b196_ok (103, (.aload_n 0), 1) (List.mem_of_getElem? (i := 62) rfl)
theorem td_196_104 : decode prog_12_method_56_code 104 = .ok ((.getfield 90), 3) := tb_b196_ok (104, (.getfield 90), 3) (List.mem_of_getElem? (i := 63) rfl)
theorem td_196_107 : decode prog_12_method_56_code 107 = .ok ((.iconst (5)), 1) := tb_b196_ok (107, (.iconst (5)), 1) (List.mem_of_getElem? (i := 64) rfl)
theorem td_196_108 : decode prog_12_method_56_code 108 = .ok ((.iload_n 3), 1) := tb_b196_ok (108, (.iload_n 3), 1) (List.mem_of_getElem? (i := 65) rfl)
theorem td_196_109 : decode prog_12_method_56_code 109 = .ok (.imul, 1) := tb_b196_ok (109, .imul, 1) (List.mem_of_getElem? (i := 66) rfl)
theorem td_196_110 : decode prog_12_method_56_code 110 = .ok ((.iload 5), 2) := tb_b196_ok (110, (.iload 5), 2) (List.mem_of_getElem? (i := 67) rfl)
theorem td_196_112 : decode prog_12_method_56_code 112 = .ok (.iadd, 1) := tb_b196_ok (112, .iadd, 1) (List.mem_of_getElem? (i := 68) rfl)
theorem td_196_113 : decode prog_12_method_56_code 113 = .ok (.baload, 1) := tb_b196_ok (113, .baload, 1) (List.mem_of_getElem? (i := 69) rfl)
theorem td_196_114 : decode prog_12_method_56_code 114 = .ok ((.ifCond .eq (7)), 3) := tb_b196_ok (114, (.ifCond .eq (7)), 3) (List.mem_of_getElem? (i := 70) rfl)
theorem td_196_117 : decode prog_12_method_56_code 117 = .ok ((.iconst (1)), 1) := tb_b196_ok (117, (.iconst (1)), 1) (List.mem_of_getElem? (i := 71) rfl)
theorem td_196_118 : decode prog_12_method_56_code 118 = .ok ((.goto (4)), 3) := tb_b196_ok (118, (.goto (4)), 3) (List.mem_of_getElem? (i := 72) rfl)
theorem td_196_121 : decode prog_12_method_56_code 121 = .ok ((.iconst (0)), 1) := tb_b196_ok (121, (.iconst (0)), 1) (List.mem_of_getElem? (i := 73) rfl)
theorem td_196_122 : decode prog_12_method_56_code 122 = .ok (.bastore, 1) := tb_b196_ok (122, .bastore, 1) (List.mem_of_getElem? (i := 74) rfl)
theorem td_196_123 : decode prog_12_method_56_code 123 = .ok ((.iinc 5 (1)), 3) := tb_b196_ok (123, (.iinc 5 (1)), 3) (List.mem_of_getElem? (i := 75) rfl)
theorem td_196_126 : decode prog_12_method_56_code 126 = .ok ((.goto (-72)), 3) := tb_b196_ok (126, (.goto (-72)), 3) (List.mem_of_getElem? (i := 76) rfl)
theorem td_196_129 : decode prog_12_method_56_code 129 = .ok ((.iinc 4 (1)), 3) := tb_b196_ok (129, (.iinc 4 (1)), 3) (List.mem_of_getElem? (i := 77) rfl)
theorem td_196_132 : decode prog_12_method_56_code 132 = .ok ((.goto (-90)), 3) := tb_b196_ok (132, (.goto (-90)), 3) (List.mem_of_getElem? (i := 78) rfl)
theorem td_196_135 : decode prog_12_method_56_code 135 = .ok ((.iinc 3 (1)), 3) := tb_b196_ok (135, (.iinc 3 (1)), 3) (List.mem_of_getElem? (i := 79) rfl)
theorem td_196_138 : decode prog_12_method_56_code 138 = .ok ((.goto (-107)), 3) := tb_b196_ok (138, (.goto (-107)), 3) (List.mem_of_getElem? (i := 80) rfl)
theorem td_196_141 : decode prog_12_method_56_code 141 = .ok ((.iconst (1)), 1) := tb_b196_ok (141, (.iconst (1)), 1) (List.mem_of_getElem? (i := 81) rfl)
theorem td_196_142 : decode prog_12_method_56_code 142 = .ok (.ireturn, 1) := tb_b196_ok (142, .ireturn, 1) (List.mem_of_getElem? (i := 82) rfl)
theorem td_198_0 : decode prog_12_method_57_code 0 = .ok ((.iload_n 2), 1) := tb_b198_ok (0, (.iload_n 2), 1) (List.mem_of_getElem? (i := 0) rfl)
theorem td_198_1 : decode prog_12_method_57_code 1 = .ok ((.invokestatic 107), 3) := tb_b198_ok (1, (.invokestatic 107), 3) (List.mem_of_getElem? (i := 1) rfl)
theorem td_198_4 : decode prog_12_method_57_code 4 = .ok ((.ifCond .eq (11)), 3) := tb_b198_ok (4, (.ifCond .eq (11)), 3) (List.mem_of_getElem? (i := 2) rfl)
theorem td_198_7 : decode prog_12_method_57_code 7 = .ok ((.aload_n 0), 1) := tb_b198_ok (7, (.aload_n 0), 1) (List.mem_of_getElem? (i := 3) rfl)
theorem td_198_8 : decode prog_12_method_57_code 8 = .ok ((.iload_n 3), 1) := tb_b198_ok (8, (.iload_n 3), 1) (List.mem_of_getElem? (i := 4) rfl)
theorem td_198_9 : decode prog_12_method_57_code 9 = .ok ((.invokevirtual 260), 3) := tb_b198_ok (9, (.invokevirtual 260), 3) (List.mem_of_getElem? (i := 5) rfl)
theorem td_198_12 : decode prog_12_method_57_code 12 = .ok ((.ifCond .ne (5)), 3) := tb_b198_ok (12, (.ifCond .ne (5)), 3) (List.mem_of_getElem? (i := 6) rfl)
theorem td_198_15 : decode prog_12_method_57_code 15 = .ok ((.iconst (0)), 1) := tb_b198_ok (15, (.iconst (0)), 1) (List.mem_of_getElem? (i := 7) rfl)
theorem td_198_16 : decode prog_12_method_57_code 16 = .ok (.ireturn, 1) := tb_b198_ok (16, .ireturn, 1) (List.mem_of_getElem? (i := 8) rfl)
theorem td_198_17 : decode prog_12_method_57_code 17 = .ok ((.iload_n 1), 1) := tb_b198_ok (17, (.iload_n 1), 1) (List.mem_of_getElem? (i := 9) rfl)
theorem td_198_18 : decode prog_12_method_57_code 18 = .ok ((.ifCond .eq (13)), 3) := tb_b198_ok (18, (.ifCond .eq (13)), 3) (List.mem_of_getElem? (i := 10) rfl)
theorem td_198_21 : decode prog_12_method_57_code 21 = .ok ((.aload_n 0), 1) := tb_b198_ok (21, (.aload_n 0), 1) (List.mem_of_getElem? (i := 11) rfl)
theorem td_198_22 : decode prog_12_method_57_code 22 = .ok ((.getfield 97), 3) := tb_b198_ok (22, (.getfield 97), 3) (List.mem_of_getElem? (i := 12) rfl)
theorem td_198_25 : decode prog_12_method_57_code 25 = .ok ((.iload_n 2), 1) := tb_b198_ok (25, (.iload_n 2), 1) (List.mem_of_getElem? (i := 13) rfl)
theorem td_198_26 : decode prog_12_method_57_code 26 = .ok ((.iload_n 3), 1) := tb_b198_ok (26, (.iload_n 3), 1) (List.mem_of_getElem? (i := 14) rfl)
theorem td_198_27 : decode prog_12_method_57_code 27 = .ok (.iastore, 1) := tb_b198_ok (27, .iastore, 1) (List.mem_of_getElem? (i := 15) rfl)
theorem td_198_28 : decode prog_12_method_57_code 28 = .ok ((.goto (10)), 3) := tb_b198_ok (28, (.goto (10)), 3) (List.mem_of_getElem? (i := 16) rfl)
theorem td_198_31 : decode prog_12_method_57_code 31 = .ok ((.aload_n 0), 1) := tb_b198_ok (31, (.aload_n 0), 1) (List.mem_of_getElem? (i := 17) rfl)
theorem td_198_32 : decode prog_12_method_57_code 32 = .ok ((.getfield 94), 3) := tb_b198_ok (32, (.getfield 94), 3) (List.mem_of_getElem? (i := 18) rfl)
theorem td_198_35 : decode prog_12_method_57_code 35 = .ok ((.iload_n 2), 1) := tb_b198_ok (35, (.iload_n 2), 1) (List.mem_of_getElem? (i := 19) rfl)
theorem td_198_36 : decode prog_12_method_57_code 36 = .ok ((.iload_n 3), 1) := tb_b198_ok (36, (.iload_n 3), 1) (List.mem_of_getElem? (i := 20) rfl)
theorem td_198_37 : decode prog_12_method_57_code 37 = .ok (.iastore, 1) := tb_b198_ok (37, .iastore, 1) (List.mem_of_getElem? (i := 21) rfl)
theorem td_198_38 : decode prog_12_method_57_code 38 = .ok ((.iconst (1)), 1) := tb_b198_ok (38, (.iconst (1)), 1) (List.mem_of_getElem? (i := 22) rfl)
theorem td_198_39 : decode prog_12_method_57_code 39 = .ok (.ireturn, 1) := tb_b198_ok (39, .ireturn, 1) (List.mem_of_getElem? (i := 23) rfl)
theorem ev_fromW {Z : sm_Z} (hZ : Z.2.2.2 = tb_N) {n j b : Nat} {As : List Value} {v : Option Value} {P : dp_P} (h : ev_okW (tb_cf n j As ev_s2 P) v ev_s2 b = true) (ad : Nat → Nat) (μ : sm_M) (hle : dp_le P μ) : sm_C tb_cl Z (tb_ys j) (tb_ws j) (dp_rm n (32 * n) ev_s2 ev_s2) As ad ev_s2 μ (fun r sh' μ' => r = v ∧ sh' = ev_s2 ∧ ∃ w : Nat × Nat, w.2 ≤ b ∧ dp_ou w μ' μ) := by
  obtain ⟨h1, h2, h3, h4⟩ := ev_okW_ok h
  have h5 := (tb_cfok hZ tb_prs n _ _ _ _ _ h1).2.2 ad μ hle
  rw [h3] at h5
  exact h5.imp (fun r sh' μ' q => ⟨q.1.trans h2, q.2.1.trans h3, _, h4, q.2.2.2⟩)
theorem ev_same {μ : sm_M} (h : dp_le ev_P2 μ) : dp_le ev_Pm μ := ev_Pm_le h dp_ou.rf (by decide)
def lvb (n : Int32) : Bool := decide (1 ≤ n) && decide (n ≤ 5)
theorem lvb_nat {n : Int32} (h : lvb n = true) : ∃ t : Nat, t < 5 ∧ n = nI (t + 1) := by
  unfold lvb at h
  rw [Bool.and_eq_true] at h
  have h1 := of_decide_eq_true h.1
  have h2 := of_decide_eq_true h.2
  have h0 : ¬ n < 0 := by
    rw [Int32.le_iff_toInt_le] at h1
    rw [Int32.lt_iff_toInt_lt]
    have e1 : (1 : Int32).toInt = 1 := by decide
    have e0 : (0 : Int32).toInt = 0 := by decide
    rw [e1] at h1
    rw [e0]
    omega
  obtain ⟨j, hj, rfl⟩ := nI_of2 (n := 5) (by decide) h0 h2
  cases j with
  | zero => exact absurd h1 (by decide)
  | succ j => exact ⟨j, by omega, rfl⟩

theorem lev_t : (List.range 5).all (fun t => ev_okW (tb_cf 3 80 [.ref 0, .int (nI (t + 1))] ev_s2 ev_P2) (some (.int 1)) ev_s2 46) = true := by decide +kernel
theorem lev_C {Z : sm_Z} (hZ : Z.2.2.2 = tb_N) (n : Int32) (ad : Nat → Nat) (μ : sm_M) (h : dp_le ev_P2 μ) : sm_C tb_cl Z (tb_ys 80) (tb_ws 80) (dp_rm 3 (32 * 3) ev_s2 ev_s2) [.ref 0, .int n] ad ev_s2 μ (fun r sh' μ' => r = some (.int (bI (lvb n))) ∧ sh' = ev_s2 ∧ dp_le ev_Pm μ') := by
  by_cases hb : lvb n = true
  · obtain ⟨t, ht, e⟩ := lvb_nat hb
    rw [hb, e]
    exact (ev_fromW hZ (List.all_eq_true.mp lev_t t (List.mem_range.mpr ht)) ad μ h).imp (fun r sh' μ' q => ⟨q.1, q.2.1, (by obtain ⟨w, h1, h2⟩ := q.2.2; exact ev_Pm_le h h2 h1)⟩)
  · have hb : lvb n = false := by cases hc : lvb n with | false => rfl | true => exact absurd hc hb
    rw [hb]
    refine sm_enter (cc := prog_1_method_5_code) (nL := 2) (ret := some .boolean) (by decide +kernel) (Nat.le_of_ble_eq_true rfl) (fun X hXZ hX hf => ?_)
    have no : ∀ L, sm_E tb_cl X 10 L [] ad ev_s2 μ := fun L => by
      refine sm_iconst hX td_80_10 ?_
      exact sm_zret hX hf rfl rfl (fun _ _ => rfl) rfl (by decide) td_80_11 ⟨rfl, rfl, ev_same h⟩
    refine sm_iloadN hX td_80_0 rfl ?_
    refine sm_iconst hX td_80_1 ?_
    refine sm_icmp_lt hX 10 td_80_2 (by decide) (fun _ => no _) (fun h1 => ?_)
    refine sm_iloadN hX td_80_5 rfl ?_
    refine sm_iconst hX td_80_6 ?_
    refine sm_icmp_le hX 12 td_80_7 (by decide) (fun h2 => ?_) (fun _ => no _)
    exfalso
    unfold lvb at hb
    have q1 : decide ((1 : Int32) ≤ n) = true := decide_eq_true (Int32.not_lt.mp h1)
    have q2 : decide (n ≤ (5 : Int32)) = true := decide_eq_true h2
    rw [q1, q2] at hb
    cases hb
theorem levm_t : (List.range 5).all (fun t => ev_okW (tb_cf 2 195 [.ref 46, .int (nI (t + 1))] ev_s2 ev_Pm) (some (.int 1)) ev_s2 1000) = true := by decide +kernel
theorem levm_C {Z : sm_Z} (hZ : Z.2.2.2 = tb_N) (n : Int32) (ad : Nat → Nat) (μ : sm_M) (h : dp_le ev_Pm μ) : sm_C tb_cl Z (tb_ys 195) (tb_ws 195) (dp_rm 2 (32 * 2) ev_s2 ev_s2) [.ref 46, .int n] ad ev_s2 μ (fun r sh' μ' => r = some (.int (bI (lvb n))) ∧ sh' = ev_s2) := by
  by_cases hb : lvb n = true
  · obtain ⟨t, ht, e⟩ := lvb_nat hb
    rw [hb, e]
    exact (ev_fromW hZ (List.all_eq_true.mp levm_t t (List.mem_range.mpr ht)) ad μ h).imp (fun r sh' μ' q => ⟨q.1, q.2.1⟩)
  · have hb : lvb n = false := by cases hc : lvb n with | false => rfl | true => exact absurd hc hb
    rw [hb]
    refine sm_enter (cc := prog_12_method_54_code) (nL := 3) (ret := some .boolean) (by decide +kernel) (Nat.le_of_ble_eq_true rfl) (fun X hXZ hX hf => ?_)
    have no : ∀ L, sm_E tb_cl X 10 L [] ad ev_s2 μ := fun L => by
      refine sm_iconst hX td_195_10 ?_
      exact sm_zret hX hf rfl rfl (fun _ _ => rfl) rfl (by decide) td_195_11 ⟨rfl, rfl⟩
    refine sm_iloadN hX td_195_0 rfl ?_
    refine sm_iconst hX td_195_1 ?_
    refine sm_icmp_lt hX 10 td_195_2 (by decide) (fun _ => no _) (fun h1 => ?_)
    refine sm_iloadN hX td_195_5 rfl ?_
    refine sm_iconst hX td_195_6 ?_
    refine sm_icmp_le hX 12 td_195_7 (by decide) (fun h2 => ?_) (fun _ => no _)
    exfalso
    unfold lvb at hb
    have q1 : decide ((1 : Int32) ≤ n) = true := decide_eq_true (Int32.not_lt.mp h1)
    have q2 : decide (n ≤ (5 : Int32)) = true := decide_eq_true h2
    rw [q1, q2] at hb
    cases hb
theorem bel_t : ev_okW (tb_cf 5 82 [.ref 0, .int 0, .int 0] ev_s2 ev_P2) (some (.int 1)) ev_s2 46 = true := by decide +kernel
theorem bel_C {Z : sm_Z} (hZ : Z.2.2.2 = tb_N) (a b : Int32) (ad : Nat → Nat) (μ : sm_M) (h : dp_le ev_P2 μ) : sm_C tb_cl Z (tb_ys 82) (tb_ws 82) (dp_rm 5 (32 * 5) ev_s2 ev_s2) [.ref 0, .int a, .int b] ad ev_s2 μ (fun r sh' μ' => r = some (.int (bI (decide (a = 0) && decide (b = 0)))) ∧ sh' = ev_s2 ∧ dp_le ev_Pm μ') := by
  by_cases hb : a = 0 ∧ b = 0
  · obtain ⟨rfl, rfl⟩ := hb
    exact (ev_fromW hZ bel_t ad μ h).imp (fun r sh' μ' q => ⟨q.1, q.2.1, (by obtain ⟨w, h1, h2⟩ := q.2.2; exact ev_Pm_le h h2 h1)⟩)
  · have hv : (decide (a = 0) && decide (b = 0)) = false := by
      cases hc : (decide (a = 0) && decide (b = 0)) with
      | false => rfl
      | true =>
        rw [Bool.and_eq_true] at hc
        exact absurd ⟨of_decide_eq_true hc.1, of_decide_eq_true hc.2⟩ hb
    rw [hv]
    refine sm_enter (cc := prog_1_method_6_code) (nL := 3) (ret := some .boolean) (by decide +kernel) (Nat.le_of_ble_eq_true rfl) (fun X hXZ hX hf => ?_)
    subst hXZ
    rw [show (tb_ys 82).cls = "ProgramSlices" by decide +kernel] at hX
    have no : ∀ L, sm_E tb_cl X 22 L [] ad ev_s2 μ := fun L => by
      refine sm_iconst hX td_82_22 ?_
      exact sm_zret hX hf rfl rfl (fun _ _ => rfl) rfl (by decide) td_82_23 ⟨rfl, rfl, ev_same h⟩
    refine sm_aloadN hX td_82_0 rfl ?_
    refine sm_getR hX (k := 4) (q := 38) (ci := 0) (T := tb_T0) (N' := 8) (C := "ProgramSlices") rfl rfl (by decide) rfl tb_u0 tb_w5 td_82_1 ?_
    refine sm_iloadN hX td_82_4 rfl ?_
    refine tb_v0_11 _ X _ _ _ _ _ _ hZ hX _ _ [] ad ev_s2 μ [.ref 38, .int a] _ (dp_rm 1 32 ev_s2 ev_s2) rfl ⟨38, _, _, rfl, rfl⟩ (lv_C a ad μ h) (by decide) (by decide) (by decide) (by decide) (by decide) td_82_5 (fun v ad' sh' μ' e1 e2 hag hq => ?_)
    obtain ⟨rfl, rfl, hm⟩ := hq
    rw [sm_ag_eq hag, hm]
    refine ⟨Or.inl (by decide), ?_⟩
    refine sm_if_eq hX 22 td_82_8 (by decide) (fun _ => no _) (fun g1 => ?_)
    refine sm_aloadN hX td_82_11 rfl ?_
    refine sm_getR hX (k := 4) (q := 38) (ci := 0) (T := tb_T0) (N' := 8) (C := "ProgramSlices") rfl rfl (by decide) rfl tb_u0 tb_w5 td_82_12 ?_
    refine sm_iloadN hX td_82_15 rfl ?_
    refine tb_v0_11 _ X _ _ _ _ _ _ hZ hX _ _ [] ad ev_s2 μ [.ref 38, .int b] _ (dp_rm 1 32 ev_s2 ev_s2) rfl ⟨38, _, _, rfl, rfl⟩ (lv_C b ad μ h) (by decide) (by decide) (by decide) (by decide) (by decide) td_82_16 (fun v ad' sh' μ' e1 e2 hag hq => ?_)
    obtain ⟨rfl, rfl, hm⟩ := hq
    rw [sm_ag_eq hag, hm]
    refine ⟨Or.inl (by decide), ?_⟩
    refine sm_if_ne hX 24 td_82_19 (by decide) (fun g2 => ?_) (fun _ => no _)
    exact absurd ⟨of_decide_eq_true (bI_1 g1), of_decide_eq_true (bI_1 g2)⟩ hb
theorem belm_t : ev_okW (tb_cf 3 196 [.ref 46, .int 0, .int 0] ev_s2 ev_Pm) (some (.int 1)) ev_s2 1000 = true := by decide +kernel
theorem belm_C {Z : sm_Z} (hZ : Z.2.2.2 = tb_N) (a b : Int32) (ad : Nat → Nat) (μ : sm_M) (h : dp_le ev_Pm μ) : sm_C tb_cl Z (tb_ys 196) (tb_ws 196) (dp_rm 3 (32 * 3) ev_s2 ev_s2) [.ref 46, .int a, .int b] ad ev_s2 μ (fun r sh' μ' => r = some (.int (bI (decide (a = 0) && decide (b = 0)))) ∧ sh' = ev_s2) := by
  by_cases hb : a = 0 ∧ b = 0
  · obtain ⟨rfl, rfl⟩ := hb
    exact (ev_fromW hZ belm_t ad μ h).imp (fun r sh' μ' q => ⟨q.1, q.2.1⟩)
  · have hv : (decide (a = 0) && decide (b = 0)) = false := by
      cases hc : (decide (a = 0) && decide (b = 0)) with
      | false => rfl
      | true =>
        rw [Bool.and_eq_true] at hc
        exact absurd ⟨of_decide_eq_true hc.1, of_decide_eq_true hc.2⟩ hb
    rw [hv]
    refine sm_enter (cc := prog_12_method_56_code) (nL := 6) (ret := some .boolean) (by decide +kernel) (Nat.le_of_ble_eq_true rfl) (fun X hXZ hX hf => ?_)
    subst hXZ
    rw [show (tb_ys 196).cls = "ProgramSlicesModel" by decide +kernel] at hX
    have no : ∀ L, sm_E tb_cl X 16 L [] ad ev_s2 μ := fun L => by
      refine sm_iconst hX td_196_16 ?_
      exact sm_zret hX hf rfl rfl (fun _ _ => rfl) rfl (by decide) td_196_17 ⟨rfl, rfl⟩
    refine sm_aloadN hX td_196_0 rfl ?_
    refine sm_iloadN hX td_196_1 rfl ?_
    refine tb_v11_33 _ X _ _ _ _ _ _ hZ hX _ _ [] ad ev_s2 μ [.ref 46, .int a] _ (dp_rm 1 32 ev_s2 ev_s2) rfl ⟨46, _, _, rfl, rfl⟩ (lvm_C a ad μ h) (by decide) (by decide) (by decide) (by decide) (by decide) td_196_2 (fun v ad' sh' μ' e1 e2 hag hq => ?_)
    obtain ⟨rfl, rfl, hm⟩ := hq
    rw [sm_ag_eq hag, hm]
    refine ⟨Or.inl (by decide), ?_⟩
    refine sm_if_eq hX 16 td_196_5 (by decide) (fun _ => no _) (fun g1 => ?_)
    refine sm_aloadN hX td_196_8 rfl ?_
    refine sm_iloadN hX td_196_9 rfl ?_
    refine tb_v11_33 _ X _ _ _ _ _ _ hZ hX _ _ [] ad ev_s2 μ [.ref 46, .int b] _ (dp_rm 1 32 ev_s2 ev_s2) rfl ⟨46, _, _, rfl, rfl⟩ (lvm_C b ad μ h) (by decide) (by decide) (by decide) (by decide) (by decide) td_196_10 (fun v ad' sh' μ' e1 e2 hag hq => ?_)
    obtain ⟨rfl, rfl, hm⟩ := hq
    rw [sm_ag_eq hag, hm]
    refine ⟨Or.inl (by decide), ?_⟩
    refine sm_if_ne hX 18 td_196_13 (by decide) (fun g2 => ?_) (fun _ => no _)
    exact absurd ⟨of_decide_eq_true (bI_1 g1), of_decide_eq_true (bI_1 g2)⟩ hb
theorem lab_t : (List.range 2).all (fun c => (List.range 4).all (fun t => ev_okW (tb_cf 3 86 [.ref 0, .int (nI c), .int (nI t), .int 0] ev_s2 ev_P2) (some (.int 1)) ev_s2 46)) = true := by decide +kernel
theorem lab_C {Z : sm_Z} (hZ : Z.2.2.2 = tb_N) (c : Nat) (hc : c < 2) (k v : Int32) (ad : Nat → Nat) (μ : sm_M) (h : dp_le ev_P2 μ) : sm_C tb_cl Z (tb_ys 86) (tb_ws 86) (dp_rm 3 (32 * 3) ev_s2 ev_s2) [.ref 0, .int (nI c), .int k, .int v] ad ev_s2 μ (fun r sh' μ' => r = some (.int (bI (fb k && decide (v = 0)))) ∧ sh' = ev_s2 ∧ dp_le ev_Pm μ') := by
  by_cases hb : fb k = true ∧ v = 0
  · obtain ⟨hk, rfl⟩ := hb
    rw [hk]
    obtain ⟨t, ht, rfl⟩ := fb_nat hk
    exact (ev_fromW hZ (List.all_eq_true.mp (List.all_eq_true.mp lab_t c (List.mem_range.mpr hc)) t (List.mem_range.mpr ht)) ad μ h).imp (fun r sh' μ' q => ⟨q.1, q.2.1, (by obtain ⟨w, h1, h2⟩ := q.2.2; exact ev_Pm_le h h2 h1)⟩)
  · have hv : (fb k && decide (v = 0)) = false := by
      cases hc : (fb k && decide (v = 0)) with
      | false => rfl
      | true =>
        rw [Bool.and_eq_true] at hc
        exact absurd ⟨hc.1, of_decide_eq_true hc.2⟩ hb
    rw [hv]
    refine sm_enter (cc := prog_1_method_7_code) (nL := 4) (ret := some .boolean) (by decide +kernel) (Nat.le_of_ble_eq_true rfl) (fun X hXZ hX hf => ?_)
    subst hXZ
    rw [show (tb_ys 86).cls = "ProgramSlices" by decide +kernel] at hX
    have no : ∀ L, sm_E tb_cl X 18 L [] ad ev_s2 μ := fun L => by
      refine sm_iconst hX td_86_18 ?_
      exact sm_zret hX hf rfl rfl (fun _ _ => rfl) rfl (by decide) td_86_19 ⟨rfl, rfl, ev_same h⟩
    refine sm_iloadN hX td_86_0 rfl ?_
    refine tb_s0_0 _ X _ _ _ _ _ _ hZ hX _ _ [] ad ev_s2 μ [.int k] _ (dp_rm 1 32 ev_s2 ev_s2) rfl trivial (f4_C k ad μ) (by decide) (by decide) (by decide) (by decide) (by decide) td_86_1 (fun v ad' sh' μ' e1 e2 hag hq => ?_)
    obtain ⟨rfl, rfl, hm⟩ := hq
    rw [sm_ag_eq hag, hm]
    refine ⟨Or.inl (by decide), ?_⟩
    refine sm_if_eq hX 18 td_86_4 (by decide) (fun _ => no _) (fun g1 => ?_)
    refine sm_aloadN hX td_86_7 rfl ?_
    refine sm_getR hX (k := 4) (q := 38) (ci := 0) (T := tb_T0) (N' := 8) (C := "ProgramSlices") rfl rfl (by decide) rfl tb_u0 tb_w5 td_86_8 ?_
    refine sm_iloadN hX td_86_11 rfl ?_
    refine tb_v0_11 _ X _ _ _ _ _ _ hZ hX _ _ [] ad ev_s2 μ [.ref 38, .int v] _ (dp_rm 1 32 ev_s2 ev_s2) rfl ⟨38, _, _, rfl, rfl⟩ (lv_C v ad μ h) (by decide) (by decide) (by decide) (by decide) (by decide) td_86_12 (fun v ad' sh' μ' e1 e2 hag hq => ?_)
    obtain ⟨rfl, rfl, hm⟩ := hq
    rw [sm_ag_eq hag, hm]
    refine ⟨Or.inl (by decide), ?_⟩
    refine sm_if_ne hX 20 td_86_15 (by decide) (fun g2 => ?_) (fun _ => no _)
    exact absurd ⟨bI_1 g1, of_decide_eq_true (bI_1 g2)⟩ hb
theorem labm_t : (List.range 2).all (fun c => (List.range 4).all (fun t => ev_okW (tb_cf 3 198 [.ref 46, .int (nI c), .int (nI t), .int 0] ev_s2 ev_Pm) (some (.int 1)) ev_s2 1000)) = true := by decide +kernel
theorem labm_C {Z : sm_Z} (hZ : Z.2.2.2 = tb_N) (c : Nat) (hc : c < 2) (k v : Int32) (ad : Nat → Nat) (μ : sm_M) (h : dp_le ev_Pm μ) : sm_C tb_cl Z (tb_ys 198) (tb_ws 198) (dp_rm 3 (32 * 3) ev_s2 ev_s2) [.ref 46, .int (nI c), .int k, .int v] ad ev_s2 μ (fun r sh' μ' => r = some (.int (bI (fb k && decide (v = 0)))) ∧ sh' = ev_s2) := by
  by_cases hb : fb k = true ∧ v = 0
  · obtain ⟨hk, rfl⟩ := hb
    rw [hk]
    obtain ⟨t, ht, rfl⟩ := fb_nat hk
    exact (ev_fromW hZ (List.all_eq_true.mp (List.all_eq_true.mp labm_t c (List.mem_range.mpr hc)) t (List.mem_range.mpr ht)) ad μ h).imp (fun r sh' μ' q => ⟨q.1, q.2.1⟩)
  · have hv : (fb k && decide (v = 0)) = false := by
      cases hc : (fb k && decide (v = 0)) with
      | false => rfl
      | true =>
        rw [Bool.and_eq_true] at hc
        exact absurd ⟨hc.1, of_decide_eq_true hc.2⟩ hb
    rw [hv]
    refine sm_enter (cc := prog_12_method_57_code) (nL := 4) (ret := some .boolean) (by decide +kernel) (Nat.le_of_ble_eq_true rfl) (fun X hXZ hX hf => ?_)
    subst hXZ
    rw [show (tb_ys 198).cls = "ProgramSlicesModel" by decide +kernel] at hX
    have no : ∀ L, sm_E tb_cl X 15 L [] ad ev_s2 μ := fun L => by
      refine sm_iconst hX td_198_15 ?_
      exact sm_zret hX hf rfl rfl (fun _ _ => rfl) rfl (by decide) td_198_16 ⟨rfl, rfl⟩
    refine sm_iloadN hX td_198_0 rfl ?_
    refine tb_s11_0 _ X _ _ _ _ _ _ hZ hX _ _ [] ad ev_s2 μ [.int k] _ (dp_rm 1 32 ev_s2 ev_s2) rfl trivial (f4m_C k ad μ) (by decide) (by decide) (by decide) (by decide) (by decide) td_198_1 (fun v ad' sh' μ' e1 e2 hag hq => ?_)
    obtain ⟨rfl, rfl, hm⟩ := hq
    rw [sm_ag_eq hag, hm]
    refine ⟨Or.inl (by decide), ?_⟩
    refine sm_if_eq hX 15 td_198_4 (by decide) (fun _ => no _) (fun g1 => ?_)
    refine sm_aloadN hX td_198_7 rfl ?_
    refine sm_iloadN hX td_198_8 rfl ?_
    refine tb_v11_33 _ X _ _ _ _ _ _ hZ hX _ _ [] ad ev_s2 μ [.ref 46, .int v] _ (dp_rm 1 32 ev_s2 ev_s2) rfl ⟨46, _, _, rfl, rfl⟩ (lvm_C v ad μ h) (by decide) (by decide) (by decide) (by decide) (by decide) td_198_9 (fun v ad' sh' μ' e1 e2 hag hq => ?_)
    obtain ⟨rfl, rfl, hm⟩ := hq
    rw [sm_ag_eq hag, hm]
    refine ⟨Or.inl (by decide), ?_⟩
    refine sm_if_ne hX 17 td_198_12 (by decide) (fun g2 => ?_) (fun _ => no _)
    exact absurd ⟨bI_1 g1, of_decide_eq_true (bI_1 g2)⟩ hb
theorem seti_C {Z : sm_Z} (t : Nat) (ht : t < 4) (v : Int32) (ad : Nat → Nat) (μ : sm_M) : sm_C tb_cl Z (tb_ys 110) (tb_ws 110) (dp_rm 1 32 ev_s2 ev_s2) [.ref 28, .int (nI t), .int v] ad ev_s2 μ (fun r sh' μ' => r = none ∧ sh' = ev_s2 ∧ μ' = sm_ui μ 33 t v) := by
  refine sm_enter (cc := prog_6_method_2_code) (nL := 3) (ret := none) (by decide +kernel) (Nat.le_of_ble_eq_true rfl) (fun X hXZ hX hf => ?_)
  rw [show (tb_ys 110).cls = "ProgramSlices$Machine" by decide +kernel] at hX
  refine sm_aloadN hX td_110_0 rfl ?_
  refine sm_getR hX (k := 2) (q := 33) (ci := 5) (T := tb_T5) (N' := 15) (C := "ProgramSlices$Machine") rfl rfl (by decide) rfl tb_u5 tb_w461 td_110_1 ?_
  refine sm_iloadN hX td_110_4 rfl ?_
  refine sm_iloadN hX td_110_5 rfl ?_
  refine sm_iast hX (p := 33) (len := 4) rfl (nI_in ht (by omega)) td_110_6 ?_
  rw [nI_clamp (show t < 2 ^ 31 by omega)]
  exact sm_vret hX hf rfl rfl (fun _ _ => rfl) rfl td_110_7 ⟨rfl, rfl, rfl⟩
theorem inp_C {Z : sm_Z} (hZ : Z.2.2.2 = tb_N) (k v : Int32) (ad : Nat → Nat) (μ : sm_M) (h : dp_le ev_P2 μ) : sm_C tb_cl Z (tb_ys 109) (tb_ws 109) (dp_rm 2 64 ev_s2 ev_s2) [.ref 0, .int k, .int v] ad ev_s2 μ (fun r sh' μ' => r = some (.int (bI (fb k))) ∧ sh' = ev_s2 ∧ dp_le ev_Pm μ') := by
    refine sm_enter (cc := prog_1_method_14_code) (nL := 3) (ret := some .boolean) (by decide +kernel) (Nat.le_of_ble_eq_true rfl) (fun X hXZ hX hf => ?_)
    subst hXZ
    rw [show (tb_ys 109).cls = "ProgramSlices" by decide +kernel] at hX
    refine sm_iloadN hX td_109_0 rfl ?_
    refine tb_s0_0 _ X _ _ _ _ _ _ hZ hX _ _ [] ad ev_s2 μ [.int k] _ (dp_rm 1 32 ev_s2 ev_s2) rfl trivial (f4_C k ad μ) (by decide) (by decide) (by decide) (by decide) (by decide) td_109_1 (fun v ad' sh' μ' e1 e2 hag hq => ?_)
    obtain ⟨rfl, rfl, hm⟩ := hq
    rw [sm_ag_eq hag, hm]
    refine ⟨Or.inl (by decide), ?_⟩
    refine sm_if_ne hX 9 td_109_4 (by decide) (fun g1 => ?_) (fun g1 => ?_)
    · have g1 := bI_1 g1
      obtain ⟨t, ht, rfl⟩ := fb_nat g1
      rw [g1] at hf
      refine sm_aloadN hX td_109_9 rfl ?_
      refine sm_getR hX (k := 3) (q := 28) (ci := 0) (T := tb_T0) (N' := 8) (C := "ProgramSlices") rfl rfl (by decide) rfl tb_u0 tb_w4 td_109_10 ?_
      refine sm_iloadN hX td_109_13 rfl ?_
      refine sm_iloadN hX td_109_14 rfl ?_
      refine tb_v0_28 _ X _ _ _ _ _ _ hZ hX _ _ [] ad ev_s2 μ [.ref 28, .int (nI t), .int v] _ (dp_rm 1 32 ev_s2 ev_s2) rfl ⟨28, _, _, rfl, rfl⟩ (seti_C t ht v ad μ) (by decide) (by decide) (by decide) (by decide) (by decide) td_109_15 (fun v' ad' sh' μ' e1 e2 hag hq => ?_)
      obtain ⟨rfl, rfl, hm⟩ := hq
      rw [sm_ag_eq hag, hm]
      refine ⟨Or.inl (by decide), ?_⟩
      refine sm_iconst hX td_109_18 ?_
      exact sm_zret hX hf rfl rfl (fun _ _ => rfl) rfl (by decide) td_109_19 ⟨rfl, rfl, ev_Pm_le h (dp_ou.ui dp_ou.rf 33 t v) (by decide)⟩
    · have g1 := bI_0 g1
      rw [g1] at hf
      refine sm_iconst hX td_109_7 ?_
      exact sm_zret hX hf rfl rfl (fun _ _ => rfl) rfl (by decide) td_109_8 ⟨rfl, rfl, ev_same h⟩
theorem inpm_C {Z : sm_Z} (hZ : Z.2.2.2 = tb_N) (k v : Int32) (ad : Nat → Nat) (μ : sm_M) : sm_C tb_cl Z (tb_ys 183) (tb_ws 183) (dp_rm 2 64 ev_s2 ev_s2) [.ref 46, .int k, .int v] ad ev_s2 μ (fun r sh' μ' => r = some (.int (bI (fb k))) ∧ sh' = ev_s2) := by
    refine sm_enter (cc := prog_12_method_42_code) (nL := 3) (ret := some .boolean) (by decide +kernel) (Nat.le_of_ble_eq_true rfl) (fun X hXZ hX hf => ?_)
    subst hXZ
    rw [show (tb_ys 183).cls = "ProgramSlicesModel" by decide +kernel] at hX
    refine sm_iloadN hX td_183_0 rfl ?_
    refine tb_s11_0 _ X _ _ _ _ _ _ hZ hX _ _ [] ad ev_s2 μ [.int k] _ (dp_rm 1 32 ev_s2 ev_s2) rfl trivial (f4m_C k ad μ) (by decide) (by decide) (by decide) (by decide) (by decide) td_183_1 (fun v ad' sh' μ' e1 e2 hag hq => ?_)
    obtain ⟨rfl, rfl, hm⟩ := hq
    rw [sm_ag_eq hag, hm]
    refine ⟨Or.inl (by decide), ?_⟩
    refine sm_if_ne hX 9 td_183_4 (by decide) (fun g1 => ?_) (fun g1 => ?_)
    · have g1 := bI_1 g1
      obtain ⟨t, ht, rfl⟩ := fb_nat g1
      rw [g1] at hf
      refine sm_aloadN hX td_183_9 rfl ?_
      refine sm_getR hX (k := 23) (q := 65) (ci := 10) (T := tb_T10) (N' := 38) (C := "ProgramSlicesModel") rfl rfl (by decide) rfl tb_u10 tb_w654 td_183_10 ?_
      refine sm_iloadN hX td_183_13 rfl ?_
      refine sm_iloadN hX td_183_14 rfl ?_
      refine sm_iast hX (p := 65) (len := 4) rfl (nI_in ht (by omega)) td_183_15 ?_
      refine sm_iconst hX td_183_16 ?_
      exact sm_zret hX hf rfl rfl (fun _ _ => rfl) rfl (by decide) td_183_17 ⟨rfl, rfl⟩
    · have g1 := bI_0 g1
      rw [g1] at hf
      refine sm_iconst hX td_183_7 ?_
      exact sm_zret hX hf rfl rfl (fun _ _ => rfl) rfl (by decide) td_183_8 ⟨rfl, rfl⟩
theorem vw_t : (List.range 4).all (fun t => decide (ev_P2.1 32 t = some 0)) = true := by decide +kernel
theorem vwr_C {Z : sm_Z} (t : Nat) (ht : t < 4) (k : Int32) (ad : Nat → Nat) (μ : sm_M) (h : dp_le ev_P2 μ) : sm_C tb_cl Z (tb_ys 133) (tb_ws 133) (dp_rm 1 32 ev_s2 ev_s2) [.ref 29, .int (nI t), .int k] ad ev_s2 μ (fun r sh' μ' => r = some (.int 0) ∧ sh' = ev_s2 ∧ μ' = μ) := by
  refine sm_enter (cc := prog_5_method_6_code) (nL := 4) (ret := some .int) (by decide +kernel) (Nat.le_of_ble_eq_true rfl) (fun X hXZ hX hf => ?_)
  rw [show (tb_ys 133).cls = "ProgramSlices$Log" by decide +kernel] at hX
  have hz : μ.1 32 (nI t).toNatClampNeg = 0 := by
    rw [nI_clamp (show t < 2 ^ 31 by omega)]
    exact h.1 32 t 0 (of_decide_eq_true (List.all_eq_true.mp vw_t t (List.mem_range.mpr ht)))
  have no : ∀ L, sm_E tb_cl X 43 L [] ad ev_s2 μ := fun L => by
    refine sm_iconst hX td_133_43 ?_
    exact sm_iret hX hf rfl rfl (fun _ _ => rfl) rfl td_133_44 ⟨rfl, rfl, rfl⟩
  refine sm_aloadN hX td_133_0 rfl ?_
  refine sm_getR hX (k := 3) (q := 32) (ci := 6) (T := tb_T6) (N' := 4) (C := "ProgramSlices$Log") rfl rfl (by decide) rfl tb_u6 tb_w548 td_133_1 ?_
  refine sm_iloadN hX td_133_4 rfl ?_
  refine sm_iald hX (p := 32) (len := 4) rfl (nI_in ht (by omega)) td_133_5 ?_
  rw [hz]
  refine sm_istoreN hX td_133_6 rfl (by decide) ?_
  refine sm_iloadN hX td_133_7 rfl ?_
  refine sm_iconst hX td_133_8 ?_
  refine sm_icmp_ne hX 14 td_133_9 (by decide) (fun _ => ?_) (fun _ => ?_)
  · refine sm_iloadN hX td_133_14 rfl ?_
    refine sm_if_lt hX 43 td_133_15 (by decide) (fun _ => no _) (fun g1 => ?_)
    refine sm_iloadN hX td_133_18 rfl ?_
    refine sm_iloadN hX td_133_19 rfl ?_
    exact sm_icmp_ge hX 43 td_133_20 (by decide) (fun _ => no _) (fun g2 => absurd (Int32.not_lt.mp g1) g2)
  · refine sm_iloadN hX td_133_12 rfl ?_
    exact sm_iret hX hf rfl rfl (fun _ _ => rfl) rfl td_133_13 ⟨rfl, rfl, rfl⟩
theorem wri_C {Z : sm_Z} (hZ : Z.2.2.2 = tb_N) (c k : Int32) (ad : Nat → Nat) (μ : sm_M) (h : dp_le ev_P2 μ) : sm_C tb_cl Z (tb_ys 132) (tb_ws 132) (dp_rm 2 64 ev_s2 ev_s2) [.ref 0, .int c, .int k] ad ev_s2 μ (fun r sh' μ' => r = some (.int 0) ∧ sh' = ev_s2 ∧ dp_le ev_Pm μ') := by
    refine sm_enter (cc := prog_1_method_18_code) (nL := 3) (ret := some .int) (by decide +kernel) (Nat.le_of_ble_eq_true rfl) (fun X hXZ hX hf => ?_)
    subst hXZ
    rw [show (tb_ys 132).cls = "ProgramSlices" by decide +kernel] at hX
    refine sm_iloadN hX td_132_0 rfl ?_
    refine tb_s0_0 _ X _ _ _ _ _ _ hZ hX _ _ [] ad ev_s2 μ [.int c] _ (dp_rm 1 32 ev_s2 ev_s2) rfl trivial (f4_C c ad μ) (by decide) (by decide) (by decide) (by decide) (by decide) td_132_1 (fun v ad' sh' μ' e1 e2 hag hq => ?_)
    obtain ⟨rfl, rfl, hm⟩ := hq
    rw [sm_ag_eq hag, hm]
    refine ⟨Or.inl (by decide), ?_⟩
    refine sm_if_eq hX 22 td_132_4 (by decide) (fun g1 => ?_) (fun g1 => ?_)
    · refine sm_iconst hX td_132_22 ?_
      exact sm_iret hX hf rfl rfl (fun _ _ => rfl) rfl td_132_23 ⟨rfl, rfl, ev_same h⟩
    · have g1 := bI_1 g1
      obtain ⟨t, ht, rfl⟩ := fb_nat g1
      refine sm_aloadN hX td_132_7 rfl ?_
      refine sm_getR hX (k := 3) (q := 28) (ci := 0) (T := tb_T0) (N' := 8) (C := "ProgramSlices") rfl rfl (by decide) rfl tb_u0 tb_w4 td_132_8 ?_
      refine sm_getR hX (k := 0) (q := 29) (ci := 5) (T := tb_T5) (N' := 15) (C := "ProgramSlices$Machine") rfl rfl (by decide) rfl tb_u5 tb_w0 td_132_11 ?_
      refine sm_iloadN hX td_132_14 rfl ?_
      refine sm_iloadN hX td_132_15 rfl ?_
      refine tb_v0_33 _ X _ _ _ _ _ _ hZ hX _ _ [] ad ev_s2 μ [.ref 29, .int (nI t), .int k] _ (dp_rm 1 32 ev_s2 ev_s2) rfl ⟨29, _, _, rfl, rfl⟩ (vwr_C t ht k ad μ h) (by decide) (by decide) (by decide) (by decide) (by decide) td_132_16 (fun v' ad' sh' μ' e1 e2 hag hq => ?_)
      obtain ⟨rfl, rfl, hm⟩ := hq
      rw [sm_ag_eq hag, hm]
      refine ⟨Or.inl (by decide), ?_⟩
      refine sm_goto hX 23 td_132_19 (by decide) ?_
      exact sm_iret hX hf rfl rfl (fun _ _ => rfl) rfl td_132_23 ⟨rfl, rfl, ev_same h⟩
