theorem td_143_0 : decode prog_12_method_4_code 0 = .ok ((.aload_n 0), 1) := tb_b143_ok (0, (.aload_n 0), 1) (List.mem_of_getElem? (i := 0) rfl)
theorem td_143_1 : decode prog_12_method_4_code 1 = .ok ((.getfield 100), 3) := tb_b143_ok (1, (.getfield 100), 3) (List.mem_of_getElem? (i := 1) rfl)
theorem td_143_4 : decode prog_12_method_4_code 4 = .ok ((.ifCond .ne (22)), 3) := tb_b143_ok (4, (.ifCond .ne (22)), 3) (List.mem_of_getElem? (i := 2) rfl)
theorem td_143_7 : decode prog_12_method_4_code 7 = .ok ((.aload_n 0), 1) := tb_b143_ok (7, (.aload_n 0), 1) (List.mem_of_getElem? (i := 3) rfl)
theorem td_143_8 : decode prog_12_method_4_code 8 = .ok ((.getfield 104), 3) := tb_b143_ok (8, (.getfield 104), 3) (List.mem_of_getElem? (i := 4) rfl)
theorem td_143_11 : decode prog_12_method_4_code 11 = .ok ((.bipush (32)), 2) := tb_b143_ok (11, (.bipush (32)), 2) (List.mem_of_getElem? (i := 5) rfl)
theorem td_143_13 : decode prog_12_method_4_code 13 = .ok ((.if_icmp .eq (13)), 3) := tb_b143_ok (13, (.if_icmp .eq (13)), 3) (List.mem_of_getElem? (i := 6) rfl)
theorem td_143_16 : decode prog_12_method_4_code 16 = .ok ((.iload_n 1), 1) := tb_b143_ok (16, (.iload_n 1), 1) (List.mem_of_getElem? (i := 7) rfl)
theorem td_143_17 : decode prog_12_method_4_code 17 = .ok ((.ifCond .lt (9)), 3) := tb_b143_ok (17, (.ifCond .lt (9)), 3) (List.mem_of_getElem? (i := 8) rfl)
theorem td_143_20 : decode prog_12_method_4_code 20 = .ok ((.iload_n 1), 1) := tb_b143_ok (20, (.iload_n 1), 1) (List.mem_of_getElem? (i := 9) rfl)
theorem td_143_21 : decode prog_12_method_4_code 21 = .ok ((.bipush (18)), 2) := tb_b143_ok (21, (.bipush (18)), 2) (List.mem_of_getElem? (i := 10) rfl)
theorem td_143_23 : decode prog_12_method_4_code 23 = .ok ((.if_icmp .le (5)), 3) := tb_b143_ok (23, (.if_icmp .le (5)), 3) (List.mem_of_getElem? (i := 11) rfl)
theorem td_143_26 : decode prog_12_method_4_code 26 = .ok ((.iconst (-1)), 1) := tb_b143_ok (26, (.iconst (-1)), 1) (List.mem_of_getElem? (i := 12) rfl)
theorem td_143_27 : decode prog_12_method_4_code 27 = .ok (.ireturn, 1) := tb_b143_ok (27, .ireturn, 1) (List.mem_of_getElem? (i := 13) rfl)
theorem td_143_28 : decode prog_12_method_4_code 28 = .ok ((.iload_n 1), 1) := tb_b143_ok (28, (.iload_n 1), 1) (List.mem_of_getElem? (i := 14) rfl)
theorem td_143_29 : decode prog_12_method_4_code 29 = .ok ((.bipush (13)), 2) := tb_b143_ok (29, (.bipush (13)), 2) (List.mem_of_getElem? (i := 15) rfl)
theorem td_143_31 : decode prog_12_method_4_code 31 = .ok ((.if_icmp .lt (13)), 3) := tb_b143_ok (31, (.if_icmp .lt (13)), 3) (List.mem_of_getElem? (i := 16) rfl)
theorem td_143_34 : decode prog_12_method_4_code 34 = .ok ((.iload_n 1), 1) := tb_b143_ok (34, (.iload_n 1), 1) (List.mem_of_getElem? (i := 17) rfl)
theorem td_143_35 : decode prog_12_method_4_code 35 = .ok ((.bipush (16)), 2) := tb_b143_ok (35, (.bipush (16)), 2) (List.mem_of_getElem? (i := 18) rfl)
theorem td_143_37 : decode prog_12_method_4_code 37 = .ok ((.if_icmp .gt (7)), 3) := tb_b143_ok (37, (.if_icmp .gt (7)), 3) (List.mem_of_getElem? (i := 19) rfl)
theorem td_143_40 : decode prog_12_method_4_code 40 = .ok ((.iconst (1)), 1) := tb_b143_ok (40, (.iconst (1)), 1) (List.mem_of_getElem? (i := 20) rfl)
theorem td_143_41 : decode prog_12_method_4_code 41 = .ok ((.goto (4)), 3) := tb_b143_ok (41, (.goto (4)), 3) (List.mem_of_getElem? (i := 21) rfl)
theorem td_143_44 : decode prog_12_method_4_code 44 = .ok ((.iconst (0)), 1) := tb_b143_ok (44, (.iconst (0)), 1) (List.mem_of_getElem? (i := 22) rfl)
theorem td_143_45 : decode prog_12_method_4_code 45 = .ok ((.istore 5), 2) := tb_b143_ok (45, (.istore 5), 2) (List.mem_of_getElem? (i := 23) rfl)
theorem td_143_47 : decode prog_12_method_4_code 47 = .ok ((.iload_n 1), 1) := tb_b143_ok (47, (.iload_n 1), 1) (List.mem_of_getElem? (i := 24) rfl)
theorem td_143_48 : decode prog_12_method_4_code 48 = .ok ((.bipush (7)), 2) := tb_b143_ok (48, (.bipush (7)), 2) (List.mem_of_getElem? (i := 25) rfl)
theorem td_143_50 : decode prog_12_method_4_code 50 = .ok ((.if_icmp .le (14)), 3) := tb_b143_ok (50, (.if_icmp .le (14)), 3) (List.mem_of_getElem? (i := 26) rfl)
theorem td_143_53 : decode prog_12_method_4_code 53 = .ok ((.iload 5), 2) := tb_b143_ok (53, (.iload 5), 2) (List.mem_of_getElem? (i := 27) rfl)
theorem td_143_55 : decode prog_12_method_4_code 55 = .ok ((.ifCond .ne (9)), 3) := tb_b143_ok (55, (.ifCond .ne (9)), 3) (List.mem_of_getElem? (i := 28) rfl)
theorem td_143_58 : decode prog_12_method_4_code 58 = .ok ((.iload_n 1), 1) := tb_b143_ok (58, (.iload_n 1), 1) (List.mem_of_getElem? (i := 29) rfl)
theorem td_143_59 : decode prog_12_method_4_code 59 = .ok ((.bipush (17)), 2) := tb_b143_ok (59, (.bipush (17)), 2) (List.mem_of_getElem? (i := 30) rfl)
theorem td_143_61 : decode prog_12_method_4_code 61 = .ok ((.if_icmp .ne (7)), 3) := tb_b143_ok (61, (.if_icmp .ne (7)), 3) (List.mem_of_getElem? (i := 31) rfl)
theorem td_143_64 : decode prog_12_method_4_code 64 = .ok ((.iconst (1)), 1) := tb_b143_ok (64, (.iconst (1)), 1) (List.mem_of_getElem? (i := 32) rfl)
theorem td_143_65 : decode prog_12_method_4_code 65 = .ok ((.goto (4)), 3) := tb_b143_ok (65, (.goto (4)), 3) (List.mem_of_getElem? (i := 33) rfl)
theorem td_143_68 : decode prog_12_method_4_code 68 = .ok ((.iconst (0)), 1) := tb_b143_ok (68, (.iconst (0)), 1) (List.mem_of_getElem? (i := 34) rfl)
theorem td_143_69 : decode prog_12_method_4_code 69 = .ok ((.istore 6), 2) := tb_b143_ok (69, (.istore 6), 2) (List.mem_of_getElem? (i := 35) rfl)
theorem td_143_71 : decode prog_12_method_4_code 71 = .ok ((.iload_n 1), 1) := tb_b143_ok (71, (.iload_n 1), 1) (List.mem_of_getElem? (i := 36) rfl)
theorem td_143_72 : decode prog_12_method_4_code 72 = .ok ((.iconst (1)), 1) := tb_b143_ok (72, (.iconst (1)), 1) (List.mem_of_getElem? (i := 37) rfl)
theorem td_143_73 : decode prog_12_method_4_code 73 = .ok ((.if_icmp .lt (9)), 3) := tb_b143_ok (73, (.if_icmp .lt (9)), 3) (List.mem_of_getElem? (i := 38) rfl)
theorem td_143_76 : decode prog_12_method_4_code 76 = .ok ((.iload_n 1), 1) := tb_b143_ok (76, (.iload_n 1), 1) (List.mem_of_getElem? (i := 39) rfl)
theorem td_143_77 : decode prog_12_method_4_code 77 = .ok ((.bipush (9)), 2) := tb_b143_ok (77, (.bipush (9)), 2) (List.mem_of_getElem? (i := 40) rfl)
theorem td_143_79 : decode prog_12_method_4_code 79 = .ok ((.if_icmp .le (20)), 3) := tb_b143_ok (79, (.if_icmp .le (20)), 3) (List.mem_of_getElem? (i := 41) rfl)
theorem td_143_82 : decode prog_12_method_4_code 82 = .ok ((.iload_n 1), 1) := tb_b143_ok (82, (.iload_n 1), 1) (List.mem_of_getElem? (i := 42) rfl)
theorem td_143_83 : decode prog_12_method_4_code 83 = .ok ((.bipush (11)), 2) := tb_b143_ok (83, (.bipush (11)), 2) (List.mem_of_getElem? (i := 43) rfl)
theorem td_143_85 : decode prog_12_method_4_code 85 = .ok ((.if_icmp .eq (14)), 3) := tb_b143_ok (85, (.if_icmp .eq (14)), 3) (List.mem_of_getElem? (i := 44) rfl)
theorem td_143_88 : decode prog_12_method_4_code 88 = .ok ((.iload 5), 2) := tb_b143_ok (88, (.iload 5), 2) (List.mem_of_getElem? (i := 45) rfl)
theorem td_143_90 : decode prog_12_method_4_code 90 = .ok ((.ifCond .ne (9)), 3) := tb_b143_ok (90, (.ifCond .ne (9)), 3) (List.mem_of_getElem? (i := 46) rfl)
theorem td_143_93 : decode prog_12_method_4_code 93 = .ok ((.iload_n 1), 1) := tb_b143_ok (93, (.iload_n 1), 1) (List.mem_of_getElem? (i := 47) rfl)
theorem td_143_94 : decode prog_12_method_4_code 94 = .ok ((.bipush (17)), 2) := tb_b143_ok (94, (.bipush (17)), 2) (List.mem_of_getElem? (i := 48) rfl)
theorem td_143_96 : decode prog_12_method_4_code 96 = .ok ((.if_icmp .ne (7)), 3) := tb_b143_ok (96, (.if_icmp .ne (7)), 3) (List.mem_of_getElem? (i := 49) rfl)
theorem td_143_99 : decode prog_12_method_4_code 99 = .ok ((.iconst (1)), 1) := tb_b143_ok (99, (.iconst (1)), 1) (List.mem_of_getElem? (i := 50) rfl)
theorem td_143_100 : decode prog_12_method_4_code 100 = .ok ((.goto (4)), 3) := tb_b143_ok (100, (.goto (4)), 3) (List.mem_of_getElem? (i := 51) rfl)
theorem td_143_103 : decode prog_12_method_4_code 103 = .ok ((.iconst (0)), 1) := tb_b143_ok (103, (.iconst (0)), 1) (List.mem_of_getElem? (i := 52) rfl)
theorem td_143_104 : decode prog_12_method_4_code 104 = .ok ((.istore 7), 2) := tb_b143_ok (104, (.istore 7), 2) (List.mem_of_getElem? (i := 53) rfl)
theorem td_143_106 : decode prog_12_method_4_code 106 = .ok ((.iload_n 1), 1) := tb_b143_ok (106, (.iload_n 1), 1) (List.mem_of_getElem? (i := 54) rfl)
theorem td_143_107 : decode prog_12_method_4_code 107 = .ok ((.iconst (1)), 1) := tb_b143_ok (107, (.iconst (1)), 1) (List.mem_of_getElem? (i := 55) rfl)
theorem td_143_108 : decode prog_12_method_4_code 108 = .ok ((.if_icmp .lt (8)), 3) := tb_b143_ok (108, (.if_icmp .lt (8)), 3) (List.mem_of_getElem? (i := 56) rfl)
theorem td_143_111 : decode prog_12_method_4_code 111 = .ok ((.iload_n 1), 1) := tb_b143_ok (111, (.iload_n 1), 1) (List.mem_of_getElem? (i := 57) rfl)
theorem td_143_112 : decode prog_12_method_4_code 112 = .ok ((.iconst (5)), 1) := tb_b143_ok (112, (.iconst (5)), 1) (List.mem_of_getElem? (i := 58) rfl)
theorem td_143_113 : decode prog_12_method_4_code 113 = .ok ((.if_icmp .le (14)), 3) := tb_b143_ok (113, (.if_icmp .le (14)), 3) (List.mem_of_getElem? (i := 59) rfl)
theorem td_143_116 : decode prog_12_method_4_code 116 = .ok ((.iload_n 1), 1) := tb_b143_ok (116, (.iload_n 1), 1) (List.mem_of_getElem? (i := 60) rfl)
theorem td_143_117 : decode prog_12_method_4_code 117 = .ok ((.bipush (8)), 2) := tb_b143_ok (117, (.bipush (8)), 2) (List.mem_of_getElem? (i := 61) rfl)
theorem td_143_119 : decode prog_12_method_4_code 119 = .ok ((.if_icmp .eq (8)), 3) := tb_b143_ok (119, (.if_icmp .eq (8)), 3) (List.mem_of_getElem? (i := 62) rfl)
theorem td_143_122 : decode prog_12_method_4_code 122 = .ok ((.iload 5), 2) := tb_b143_ok (122, (.iload 5), 2) (List.mem_of_getElem? (i := 63) rfl)
theorem td_143_124 : decode prog_12_method_4_code 124 = .ok ((.ifCond .eq (7)), 3) := tb_b143_ok (124, (.ifCond .eq (7)), 3) (List.mem_of_getElem? (i := 64) rfl)
theorem td_143_127 : decode prog_12_method_4_code 127 = .ok ((.iconst (1)), 1) := tb_b143_ok (127, (.iconst (1)), 1) (List.mem_of_getElem? (i := 65) rfl)
theorem td_143_128 : decode prog_12_method_4_code 128 = .ok ((.goto (4)), 3) := tb_b143_ok (128, (.goto (4)), 3) (List.mem_of_getElem? (i := 66) rfl)
theorem td_143_131 : decode prog_12_method_4_code 131 = .ok ((.iconst (0)), 1) := tb_b143_ok (131, (.iconst (0)), 1) (List.mem_of_getElem? (i := 67) rfl)
theorem td_143_132 : decode prog_12_method_4_code 132 = .ok ((.istore 8), 2) := tb_b143_ok (132, (.istore 8), 2) (List.mem_of_getElem? (i := 68) rfl)
theorem td_143_134 : decode prog_12_method_4_code 134 = .ok ((.iload 6), 2) := tb_b143_ok (134, (.iload 6), 2) (List.mem_of_getElem? (i := 69) rfl)
theorem td_143_136 : decode prog_12_method_4_code 136 = .ok ((.ifCond .eq (10)), 3) := tb_b143_ok (136, (.ifCond .eq (10)), 3) (List.mem_of_getElem? (i := 70) rfl)
theorem td_143_139 : decode prog_12_method_4_code 139 = .ok ((.iload_n 2), 1) := tb_b143_ok (139, (.iload_n 2), 1) (List.mem_of_getElem? (i := 71) rfl)
theorem td_143_140 : decode prog_12_method_4_code 140 = .ok ((.invokestatic 107), 3) := tb_b143_ok (140, (.invokestatic 107), 3) (List.mem_of_getElem? (i := 72) rfl)
theorem td_143_143 : decode prog_12_method_4_code 143 = .ok ((.ifCond .eq (28)), 3) := tb_b143_ok (143, (.ifCond .eq (28)), 3) (List.mem_of_getElem? (i := 73) rfl)
theorem td_143_146 : decode prog_12_method_4_code 146 = .ok ((.iload 7), 2) := tb_b143_ok (146, (.iload 7), 2) (List.mem_of_getElem? (i := 74) rfl)
theorem td_143_148 : decode prog_12_method_4_code 148 = .ok ((.ifCond .eq (10)), 3) := tb_b143_ok (148, (.ifCond .eq (10)), 3) (List.mem_of_getElem? (i := 75) rfl)
theorem td_143_151 : decode prog_12_method_4_code 151 = .ok ((.iload_n 3), 1) := tb_b143_ok (151, (.iload_n 3), 1) (List.mem_of_getElem? (i := 76) rfl)
theorem td_143_152 : decode prog_12_method_4_code 152 = .ok ((.invokestatic 107), 3) := tb_b143_ok (152, (.invokestatic 107), 3) (List.mem_of_getElem? (i := 77) rfl)
theorem td_143_155 : decode prog_12_method_4_code 155 = .ok ((.ifCond .eq (16)), 3) := tb_b143_ok (155, (.ifCond .eq (16)), 3) (List.mem_of_getElem? (i := 78) rfl)
theorem td_143_158 : decode prog_12_method_4_code 158 = .ok ((.iload 8), 2) := tb_b143_ok (158, (.iload 8), 2) (List.mem_of_getElem? (i := 79) rfl)
theorem td_143_160 : decode prog_12_method_4_code 160 = .ok ((.ifCond .eq (13)), 3) := tb_b143_ok (160, (.ifCond .eq (13)), 3) (List.mem_of_getElem? (i := 80) rfl)
theorem td_143_163 : decode prog_12_method_4_code 163 = .ok ((.iload 4), 2) := tb_b143_ok (163, (.iload 4), 2) (List.mem_of_getElem? (i := 81) rfl)
theorem td_143_165 : decode prog_12_method_4_code 165 = .ok ((.invokestatic 107), 3) := tb_b143_ok (165, (.invokestatic 107), 3) (List.mem_of_getElem? (i := 82) rfl)
theorem td_143_168 : decode prog_12_method_4_code 168 = .ok ((.ifCond .ne (5)), 3) := tb_b143_ok (168, (.ifCond .ne (5)), 3) (List.mem_of_getElem? (i := 83) rfl)
theorem td_143_171 : decode prog_12_method_4_code 171 = .ok ((.iconst (-1)), 1) := tb_b143_ok (171, (.iconst (-1)), 1) (List.mem_of_getElem? (i := 84) rfl)
theorem td_143_172 : decode prog_12_method_4_code 172 = .ok (.ireturn, 1) := tb_b143_ok (172, .ireturn, 1) (List.mem_of_getElem? (i := 85) rfl)
theorem td_143_173 : decode prog_12_method_4_code 173 = .ok ((.aload_n 0), 1) := tb_b143_ok (173, (.aload_n 0), 1) (List.mem_of_getElem? (i := 86) rfl)
theorem td_143_174 : decode prog_12_method_4_code 174 = .ok ((.getfield 7), 3) := tb_b143_ok (174, (.getfield 7), 3) (List.mem_of_getElem? (i := 87) rfl)
theorem td_143_177 : decode prog_12_method_4_code 177 = .ok ((.aload_n 0), 1) := tb_b143_ok (177, (.aload_n 0), 1) (List.mem_of_getElem? (i := 88) rfl)
theorem td_143_178 : decode prog_12_method_4_code 178 = .ok ((.getfield 104), 3) := tb_b143_ok (178, (.getfield 104), 3) (List.mem_of_getElem? (i := 89) rfl)
theorem td_143_181 : decode prog_12_method_4_code 181 = .ok ((.iload_n 1), 1) := tb_b143_ok (181, (.iload_n 1), 1) (List.mem_of_getElem? (i := 90) rfl)
theorem td_143_182 : decode prog_12_method_4_code 182 = .ok (.iastore, 1) := tb_b143_ok (182, .iastore, 1) (List.mem_of_getElem? (i := 91) rfl)
theorem td_143_183 : decode prog_12_method_4_code 183 = .ok ((.aload_n 0), 1) := tb_b143_ok (183, (.aload_n 0), 1) (List.mem_of_getElem? (i := 92) rfl)
theorem td_143_184 : decode prog_12_method_4_code 184 = .ok ((.getfield 13), 3) := tb_b143_ok (184, (.getfield 13), 3) (List.mem_of_getElem? (i := 93) rfl)
theorem td_143_187 : decode prog_12_method_4_code 187 = .ok ((.aload_n 0), 1) := tb_b143_ok (187, (.aload_n 0), 1) (List.mem_of_getElem? (i := 94) rfl)
theorem td_143_188 : decode prog_12_method_4_code 188 = .ok ((.getfield 104), 3) := tb_b143_ok (188, (.getfield 104), 3) (List.mem_of_getElem? (i := 95) rfl)
theorem td_143_191 : decode prog_12_method_4_code 191 = .ok ((.iload_n 2), 1) := tb_b143_ok (191, (.iload_n 2), 1) (List.mem_of_getElem? (i := 96) rfl)
theorem td_143_192 : decode prog_12_method_4_code 192 = .ok (.iastore, 1) := tb_b143_ok (192, .iastore, 1) (List.mem_of_getElem? (i := 97) rfl)
theorem td_143_193 : decode prog_12_method_4_code 193 = .ok ((.aload_n 0), 1) := tb_b143_ok (193, (.aload_n 0), 1) (List.mem_of_getElem? (i := 98) rfl)
theorem td_143_194 : decode prog_12_method_4_code 194 = .ok ((.getfield 16), 3) := tb_b143_ok (194, (.getfield 16), 3) (List.mem_of_getElem? (i := 99) rfl)
theorem td_143_197 : decode prog_12_method_4_code 197 = .ok ((.aload_n 0), 1) := tb_b143_ok (197, (.aload_n 0), 1) (List.mem_of_getElem? (i := 100) rfl)
theorem td_143_198 : decode prog_12_method_4_code 198 = .ok ((.getfield 104), 3) := tb_b143_ok (198, (.getfield 104), 3) (List.mem_of_getElem? (i := 101) rfl)
theorem td_143_201 : decode prog_12_method_4_code 201 = .ok ((.iload_n 3), 1) := tb_b143_ok (201, (.iload_n 3), 1) (List.mem_of_getElem? (i := 102) rfl)
theorem td_143_202 : decode prog_12_method_4_code 202 = .ok (.iastore, 1) := tb_b143_ok (202, .iastore, 1) (List.mem_of_getElem? (i := 103) rfl)
theorem td_143_203 : decode prog_12_method_4_code 203 = .ok ((.aload_n 0), 1) := tb_b143_ok (203, (.aload_n 0), 1) (List.mem_of_getElem? (i := 104) rfl)
theorem td_143_204 : decode prog_12_method_4_code 204 = .ok ((.getfield 19), 3) := tb_b143_ok (204, (.getfield 19), 3) (List.mem_of_getElem? (i := 105) rfl)
theorem td_143_207 : decode prog_12_method_4_code 207 = .ok ((.aload_n 0), 1) := tb_b143_ok (207, (.aload_n 0), 1) (List.mem_of_getElem? (i := 106) rfl)
theorem td_143_208 : decode prog_12_method_4_code 208 = .ok ((.getfield 104), 3) := tb_b143_ok (208, (.getfield 104), 3) (List.mem_of_getElem? (i := 107) rfl)
theorem td_143_211 : decode prog_12_method_4_code 211 = .ok ((.iload 4), 2) := tb_b143_ok (211, (.iload 4), 2) (List.mem_of_getElem? (i := 108) rfl)
theorem td_143_213 : decode prog_12_method_4_code 213 = .ok (.iastore, 1) := tb_b143_ok (213, .iastore, 1) (List.mem_of_getElem? (i := 109) rfl)
theorem td_143_214 : decode prog_12_method_4_code 214 = .ok ((.aload_n 0), 1) := tb_b143_ok (214, (.aload_n 0), 1) (List.mem_of_getElem? (i := 110) rfl)
theorem td_143_215 : decode prog_12_method_4_code 215 = .ok (.dup, 1) := tb_b143_ok (215, .dup, 1) (List.mem_of_getElem? (i := 111) rfl)
theorem td_143_216 : decode prog_12_method_4_code 216 = .ok ((.getfield 104), 3) := tb_b143_ok (216, (.getfield 104), 3) (List.mem_of_getElem? (i := 112) rfl)
theorem td_143_219 : decode prog_12_method_4_code 219 = .ok ((.iconst (1)), 1) := tb_b143_ok (219, (.iconst (1)), 1) (List.mem_of_getElem? (i := 113) rfl)
theorem td_143_220 : decode prog_12_method_4_code 220 = .ok (.iadd, 1) := tb_b143_ok (220, .iadd, 1) (List.mem_of_getElem? (i := 114) rfl)
theorem td_143_221 : decode prog_12_method_4_code 221 = .ok ((.putfield 104), 3) := tb_b143_ok (221, (.putfield 104), 3) (List.mem_of_getElem? (i := 115) rfl)
theorem td_143_224 : decode prog_12_method_4_code 224 = .ok ((.aload_n 0), 1) := tb_b143_ok (224, (.aload_n 0), 1) (List.mem_of_getElem? (i := 116) rfl)
theorem td_143_225 : decode prog_12_method_4_code 225 = .ok ((.getfield 104), 3) := tb_b143_ok (225, (.getfield 104), 3) (List.mem_of_getElem? (i := 117) rfl)
theorem td_143_228 : decode prog_12_method_4_code 228 = .ok ((.iconst (1)), 1) := tb_b143_ok (228, (.iconst (1)), 1) (List.mem_of_getElem? (i := 118) rfl)
theorem td_143_229 : decode prog_12_method_4_code 229 = .ok (.isub, 1) := tb_b143_ok (229, .isub, 1) (List.mem_of_getElem? (i := 119) rfl)
theorem td_143_230 : decode prog_12_method_4_code 230 = .ok (.ireturn, 1) := tb_b143_ok (230, .ireturn, 1) (List.mem_of_getElem? (i := 120) rfl)
def bJ (b : Bool) : Int32 := bif b then Int32.ofInt 1 else Int32.ofInt 0
theorem addm_0 {X : sm_X} {rm : Room} {N S : Nat} {ini : Bool} (hX : sm_ok tb_cl X prog_12_method_4_code 9 "ProgramSlicesModel" tb_W (some .int) rm N S ini) (d a b : Int32) (ad : Nat → Nat) (μ : sm_M) (k : sm_E tb_cl X 134 [some (.ref 46), some (.int (nI 0)), some (.int d), some (.int a), some (.int b), some (.int (Int32.ofInt 0)), some (.int (bJ (nD 0))), some (.int (bJ (nA 0))), some (.int (bJ (nB 0)))] [] ad ev_s2 μ) : sm_E tb_cl X 28 [some (.ref 46), some (.int (nI 0)), some (.int d), some (.int a), some (.int b), none, none, none, none] [] ad ev_s2 μ := by
  refine sm_iloadN hX td_143_28 rfl ?_
  refine sm_bipush hX td_143_29 ?_
  refine sm_icmp_lt hX 44 td_143_31 (by decide) (fun _ => ?_) (fun z => absurd (by decide) z)
  refine sm_iconst hX td_143_44 ?_
  refine sm_istoreG hX td_143_45 rfl (by decide) ?_
  refine sm_iloadN hX td_143_47 rfl ?_
  refine sm_bipush hX td_143_48 ?_
  refine sm_icmp_le hX 64 td_143_50 (by decide) (fun _ => ?_) (fun z => absurd (by decide) z)
  refine sm_iconst hX td_143_64 ?_
  refine sm_goto hX 69 td_143_65 (by decide) ?_
  refine sm_istoreG hX td_143_69 rfl (by decide) ?_
  refine sm_iloadN hX td_143_71 rfl ?_
  refine sm_iconst hX td_143_72 ?_
  refine sm_icmp_lt hX 82 td_143_73 (by decide) (fun _ => ?_) (fun z => absurd (by decide) z)
  refine sm_iloadN hX td_143_82 rfl ?_
  refine sm_bipush hX td_143_83 ?_
  refine sm_icmp_eq hX 99 td_143_85 (by decide) (fun z => absurd z (by decide)) (fun _ => ?_)
  refine sm_iloadG hX td_143_88 rfl ?_
  refine sm_if_ne hX 99 td_143_90 (by decide) (fun z => absurd z (by decide)) (fun _ => ?_)
  refine sm_iloadN hX td_143_93 rfl ?_
  refine sm_bipush hX td_143_94 ?_
  refine sm_icmp_ne hX 103 td_143_96 (by decide) (fun _ => ?_) (fun z => absurd z (by decide))
  refine sm_iconst hX td_143_103 ?_
  refine sm_istoreG hX td_143_104 rfl (by decide) ?_
  refine sm_iloadN hX td_143_106 rfl ?_
  refine sm_iconst hX td_143_107 ?_
  refine sm_icmp_lt hX 116 td_143_108 (by decide) (fun _ => ?_) (fun z => absurd (by decide) z)
  refine sm_iloadN hX td_143_116 rfl ?_
  refine sm_bipush hX td_143_117 ?_
  refine sm_icmp_eq hX 127 td_143_119 (by decide) (fun z => absurd z (by decide)) (fun _ => ?_)
  refine sm_iloadG hX td_143_122 rfl ?_
  refine sm_if_eq hX 131 td_143_124 (by decide) (fun _ => ?_) (fun z => absurd (by decide) z)
  refine sm_iconst hX td_143_131 ?_
  refine sm_istoreG hX td_143_132 rfl (by decide) ?_
  exact k
theorem addm_1 {X : sm_X} {rm : Room} {N S : Nat} {ini : Bool} (hX : sm_ok tb_cl X prog_12_method_4_code 9 "ProgramSlicesModel" tb_W (some .int) rm N S ini) (d a b : Int32) (ad : Nat → Nat) (μ : sm_M) (k : sm_E tb_cl X 134 [some (.ref 46), some (.int (nI 1)), some (.int d), some (.int a), some (.int b), some (.int (Int32.ofInt 0)), some (.int (bJ (nD 1))), some (.int (bJ (nA 1))), some (.int (bJ (nB 1)))] [] ad ev_s2 μ) : sm_E tb_cl X 28 [some (.ref 46), some (.int (nI 1)), some (.int d), some (.int a), some (.int b), none, none, none, none] [] ad ev_s2 μ := by
  refine sm_iloadN hX td_143_28 rfl ?_
  refine sm_bipush hX td_143_29 ?_
  refine sm_icmp_lt hX 44 td_143_31 (by decide) (fun _ => ?_) (fun z => absurd (by decide) z)
  refine sm_iconst hX td_143_44 ?_
  refine sm_istoreG hX td_143_45 rfl (by decide) ?_
  refine sm_iloadN hX td_143_47 rfl ?_
  refine sm_bipush hX td_143_48 ?_
  refine sm_icmp_le hX 64 td_143_50 (by decide) (fun _ => ?_) (fun z => absurd (by decide) z)
  refine sm_iconst hX td_143_64 ?_
  refine sm_goto hX 69 td_143_65 (by decide) ?_
  refine sm_istoreG hX td_143_69 rfl (by decide) ?_
  refine sm_iloadN hX td_143_71 rfl ?_
  refine sm_iconst hX td_143_72 ?_
  refine sm_icmp_lt hX 82 td_143_73 (by decide) (fun z => absurd z (by decide)) (fun _ => ?_)
  refine sm_iloadN hX td_143_76 rfl ?_
  refine sm_bipush hX td_143_77 ?_
  refine sm_icmp_le hX 99 td_143_79 (by decide) (fun _ => ?_) (fun z => absurd (by decide) z)
  refine sm_iconst hX td_143_99 ?_
  refine sm_goto hX 104 td_143_100 (by decide) ?_
  refine sm_istoreG hX td_143_104 rfl (by decide) ?_
  refine sm_iloadN hX td_143_106 rfl ?_
  refine sm_iconst hX td_143_107 ?_
  refine sm_icmp_lt hX 116 td_143_108 (by decide) (fun z => absurd z (by decide)) (fun _ => ?_)
  refine sm_iloadN hX td_143_111 rfl ?_
  refine sm_iconst hX td_143_112 ?_
  refine sm_icmp_le hX 127 td_143_113 (by decide) (fun _ => ?_) (fun z => absurd (by decide) z)
  refine sm_iconst hX td_143_127 ?_
  refine sm_goto hX 132 td_143_128 (by decide) ?_
  refine sm_istoreG hX td_143_132 rfl (by decide) ?_
  exact k
theorem addm_2 {X : sm_X} {rm : Room} {N S : Nat} {ini : Bool} (hX : sm_ok tb_cl X prog_12_method_4_code 9 "ProgramSlicesModel" tb_W (some .int) rm N S ini) (d a b : Int32) (ad : Nat → Nat) (μ : sm_M) (k : sm_E tb_cl X 134 [some (.ref 46), some (.int (nI 2)), some (.int d), some (.int a), some (.int b), some (.int (Int32.ofInt 0)), some (.int (bJ (nD 2))), some (.int (bJ (nA 2))), some (.int (bJ (nB 2)))] [] ad ev_s2 μ) : sm_E tb_cl X 28 [some (.ref 46), some (.int (nI 2)), some (.int d), some (.int a), some (.int b), none, none, none, none] [] ad ev_s2 μ := by
  refine sm_iloadN hX td_143_28 rfl ?_
  refine sm_bipush hX td_143_29 ?_
  refine sm_icmp_lt hX 44 td_143_31 (by decide) (fun _ => ?_) (fun z => absurd (by decide) z)
  refine sm_iconst hX td_143_44 ?_
  refine sm_istoreG hX td_143_45 rfl (by decide) ?_
  refine sm_iloadN hX td_143_47 rfl ?_
  refine sm_bipush hX td_143_48 ?_
  refine sm_icmp_le hX 64 td_143_50 (by decide) (fun _ => ?_) (fun z => absurd (by decide) z)
  refine sm_iconst hX td_143_64 ?_
  refine sm_goto hX 69 td_143_65 (by decide) ?_
  refine sm_istoreG hX td_143_69 rfl (by decide) ?_
  refine sm_iloadN hX td_143_71 rfl ?_
  refine sm_iconst hX td_143_72 ?_
  refine sm_icmp_lt hX 82 td_143_73 (by decide) (fun z => absurd z (by decide)) (fun _ => ?_)
  refine sm_iloadN hX td_143_76 rfl ?_
  refine sm_bipush hX td_143_77 ?_
  refine sm_icmp_le hX 99 td_143_79 (by decide) (fun _ => ?_) (fun z => absurd (by decide) z)
  refine sm_iconst hX td_143_99 ?_
  refine sm_goto hX 104 td_143_100 (by decide) ?_
  refine sm_istoreG hX td_143_104 rfl (by decide) ?_
  refine sm_iloadN hX td_143_106 rfl ?_
  refine sm_iconst hX td_143_107 ?_
  refine sm_icmp_lt hX 116 td_143_108 (by decide) (fun z => absurd z (by decide)) (fun _ => ?_)
  refine sm_iloadN hX td_143_111 rfl ?_
  refine sm_iconst hX td_143_112 ?_
  refine sm_icmp_le hX 127 td_143_113 (by decide) (fun _ => ?_) (fun z => absurd (by decide) z)
  refine sm_iconst hX td_143_127 ?_
  refine sm_goto hX 132 td_143_128 (by decide) ?_
  refine sm_istoreG hX td_143_132 rfl (by decide) ?_
  exact k
theorem addm_3 {X : sm_X} {rm : Room} {N S : Nat} {ini : Bool} (hX : sm_ok tb_cl X prog_12_method_4_code 9 "ProgramSlicesModel" tb_W (some .int) rm N S ini) (d a b : Int32) (ad : Nat → Nat) (μ : sm_M) (k : sm_E tb_cl X 134 [some (.ref 46), some (.int (nI 3)), some (.int d), some (.int a), some (.int b), some (.int (Int32.ofInt 0)), some (.int (bJ (nD 3))), some (.int (bJ (nA 3))), some (.int (bJ (nB 3)))] [] ad ev_s2 μ) : sm_E tb_cl X 28 [some (.ref 46), some (.int (nI 3)), some (.int d), some (.int a), some (.int b), none, none, none, none] [] ad ev_s2 μ := by
  refine sm_iloadN hX td_143_28 rfl ?_
  refine sm_bipush hX td_143_29 ?_
  refine sm_icmp_lt hX 44 td_143_31 (by decide) (fun _ => ?_) (fun z => absurd (by decide) z)
  refine sm_iconst hX td_143_44 ?_
  refine sm_istoreG hX td_143_45 rfl (by decide) ?_
  refine sm_iloadN hX td_143_47 rfl ?_
  refine sm_bipush hX td_143_48 ?_
  refine sm_icmp_le hX 64 td_143_50 (by decide) (fun _ => ?_) (fun z => absurd (by decide) z)
  refine sm_iconst hX td_143_64 ?_
  refine sm_goto hX 69 td_143_65 (by decide) ?_
  refine sm_istoreG hX td_143_69 rfl (by decide) ?_
  refine sm_iloadN hX td_143_71 rfl ?_
  refine sm_iconst hX td_143_72 ?_
  refine sm_icmp_lt hX 82 td_143_73 (by decide) (fun z => absurd z (by decide)) (fun _ => ?_)
  refine sm_iloadN hX td_143_76 rfl ?_
  refine sm_bipush hX td_143_77 ?_
  refine sm_icmp_le hX 99 td_143_79 (by decide) (fun _ => ?_) (fun z => absurd (by decide) z)
  refine sm_iconst hX td_143_99 ?_
  refine sm_goto hX 104 td_143_100 (by decide) ?_
  refine sm_istoreG hX td_143_104 rfl (by decide) ?_
  refine sm_iloadN hX td_143_106 rfl ?_
  refine sm_iconst hX td_143_107 ?_
  refine sm_icmp_lt hX 116 td_143_108 (by decide) (fun z => absurd z (by decide)) (fun _ => ?_)
  refine sm_iloadN hX td_143_111 rfl ?_
  refine sm_iconst hX td_143_112 ?_
  refine sm_icmp_le hX 127 td_143_113 (by decide) (fun _ => ?_) (fun z => absurd (by decide) z)
  refine sm_iconst hX td_143_127 ?_
  refine sm_goto hX 132 td_143_128 (by decide) ?_
  refine sm_istoreG hX td_143_132 rfl (by decide) ?_
  exact k
theorem addm_4 {X : sm_X} {rm : Room} {N S : Nat} {ini : Bool} (hX : sm_ok tb_cl X prog_12_method_4_code 9 "ProgramSlicesModel" tb_W (some .int) rm N S ini) (d a b : Int32) (ad : Nat → Nat) (μ : sm_M) (k : sm_E tb_cl X 134 [some (.ref 46), some (.int (nI 4)), some (.int d), some (.int a), some (.int b), some (.int (Int32.ofInt 0)), some (.int (bJ (nD 4))), some (.int (bJ (nA 4))), some (.int (bJ (nB 4)))] [] ad ev_s2 μ) : sm_E tb_cl X 28 [some (.ref 46), some (.int (nI 4)), some (.int d), some (.int a), some (.int b), none, none, none, none] [] ad ev_s2 μ := by
  refine sm_iloadN hX td_143_28 rfl ?_
  refine sm_bipush hX td_143_29 ?_
  refine sm_icmp_lt hX 44 td_143_31 (by decide) (fun _ => ?_) (fun z => absurd (by decide) z)
  refine sm_iconst hX td_143_44 ?_
  refine sm_istoreG hX td_143_45 rfl (by decide) ?_
  refine sm_iloadN hX td_143_47 rfl ?_
  refine sm_bipush hX td_143_48 ?_
  refine sm_icmp_le hX 64 td_143_50 (by decide) (fun _ => ?_) (fun z => absurd (by decide) z)
  refine sm_iconst hX td_143_64 ?_
  refine sm_goto hX 69 td_143_65 (by decide) ?_
  refine sm_istoreG hX td_143_69 rfl (by decide) ?_
  refine sm_iloadN hX td_143_71 rfl ?_
  refine sm_iconst hX td_143_72 ?_
  refine sm_icmp_lt hX 82 td_143_73 (by decide) (fun z => absurd z (by decide)) (fun _ => ?_)
  refine sm_iloadN hX td_143_76 rfl ?_
  refine sm_bipush hX td_143_77 ?_
  refine sm_icmp_le hX 99 td_143_79 (by decide) (fun _ => ?_) (fun z => absurd (by decide) z)
  refine sm_iconst hX td_143_99 ?_
  refine sm_goto hX 104 td_143_100 (by decide) ?_
  refine sm_istoreG hX td_143_104 rfl (by decide) ?_
  refine sm_iloadN hX td_143_106 rfl ?_
  refine sm_iconst hX td_143_107 ?_
  refine sm_icmp_lt hX 116 td_143_108 (by decide) (fun z => absurd z (by decide)) (fun _ => ?_)
  refine sm_iloadN hX td_143_111 rfl ?_
  refine sm_iconst hX td_143_112 ?_
  refine sm_icmp_le hX 127 td_143_113 (by decide) (fun _ => ?_) (fun z => absurd (by decide) z)
  refine sm_iconst hX td_143_127 ?_
  refine sm_goto hX 132 td_143_128 (by decide) ?_
  refine sm_istoreG hX td_143_132 rfl (by decide) ?_
  exact k
theorem addm_5 {X : sm_X} {rm : Room} {N S : Nat} {ini : Bool} (hX : sm_ok tb_cl X prog_12_method_4_code 9 "ProgramSlicesModel" tb_W (some .int) rm N S ini) (d a b : Int32) (ad : Nat → Nat) (μ : sm_M) (k : sm_E tb_cl X 134 [some (.ref 46), some (.int (nI 5)), some (.int d), some (.int a), some (.int b), some (.int (Int32.ofInt 0)), some (.int (bJ (nD 5))), some (.int (bJ (nA 5))), some (.int (bJ (nB 5)))] [] ad ev_s2 μ) : sm_E tb_cl X 28 [some (.ref 46), some (.int (nI 5)), some (.int d), some (.int a), some (.int b), none, none, none, none] [] ad ev_s2 μ := by
  refine sm_iloadN hX td_143_28 rfl ?_
  refine sm_bipush hX td_143_29 ?_
  refine sm_icmp_lt hX 44 td_143_31 (by decide) (fun _ => ?_) (fun z => absurd (by decide) z)
  refine sm_iconst hX td_143_44 ?_
  refine sm_istoreG hX td_143_45 rfl (by decide) ?_
  refine sm_iloadN hX td_143_47 rfl ?_
  refine sm_bipush hX td_143_48 ?_
  refine sm_icmp_le hX 64 td_143_50 (by decide) (fun _ => ?_) (fun z => absurd (by decide) z)
  refine sm_iconst hX td_143_64 ?_
  refine sm_goto hX 69 td_143_65 (by decide) ?_
  refine sm_istoreG hX td_143_69 rfl (by decide) ?_
  refine sm_iloadN hX td_143_71 rfl ?_
  refine sm_iconst hX td_143_72 ?_
  refine sm_icmp_lt hX 82 td_143_73 (by decide) (fun z => absurd z (by decide)) (fun _ => ?_)
  refine sm_iloadN hX td_143_76 rfl ?_
  refine sm_bipush hX td_143_77 ?_
  refine sm_icmp_le hX 99 td_143_79 (by decide) (fun _ => ?_) (fun z => absurd (by decide) z)
  refine sm_iconst hX td_143_99 ?_
  refine sm_goto hX 104 td_143_100 (by decide) ?_
  refine sm_istoreG hX td_143_104 rfl (by decide) ?_
  refine sm_iloadN hX td_143_106 rfl ?_
  refine sm_iconst hX td_143_107 ?_
  refine sm_icmp_lt hX 116 td_143_108 (by decide) (fun z => absurd z (by decide)) (fun _ => ?_)
  refine sm_iloadN hX td_143_111 rfl ?_
  refine sm_iconst hX td_143_112 ?_
  refine sm_icmp_le hX 127 td_143_113 (by decide) (fun _ => ?_) (fun z => absurd (by decide) z)
  refine sm_iconst hX td_143_127 ?_
  refine sm_goto hX 132 td_143_128 (by decide) ?_
  refine sm_istoreG hX td_143_132 rfl (by decide) ?_
  exact k
theorem addm_6 {X : sm_X} {rm : Room} {N S : Nat} {ini : Bool} (hX : sm_ok tb_cl X prog_12_method_4_code 9 "ProgramSlicesModel" tb_W (some .int) rm N S ini) (d a b : Int32) (ad : Nat → Nat) (μ : sm_M) (k : sm_E tb_cl X 134 [some (.ref 46), some (.int (nI 6)), some (.int d), some (.int a), some (.int b), some (.int (Int32.ofInt 0)), some (.int (bJ (nD 6))), some (.int (bJ (nA 6))), some (.int (bJ (nB 6)))] [] ad ev_s2 μ) : sm_E tb_cl X 28 [some (.ref 46), some (.int (nI 6)), some (.int d), some (.int a), some (.int b), none, none, none, none] [] ad ev_s2 μ := by
  refine sm_iloadN hX td_143_28 rfl ?_
  refine sm_bipush hX td_143_29 ?_
  refine sm_icmp_lt hX 44 td_143_31 (by decide) (fun _ => ?_) (fun z => absurd (by decide) z)
  refine sm_iconst hX td_143_44 ?_
  refine sm_istoreG hX td_143_45 rfl (by decide) ?_
  refine sm_iloadN hX td_143_47 rfl ?_
  refine sm_bipush hX td_143_48 ?_
  refine sm_icmp_le hX 64 td_143_50 (by decide) (fun _ => ?_) (fun z => absurd (by decide) z)
  refine sm_iconst hX td_143_64 ?_
  refine sm_goto hX 69 td_143_65 (by decide) ?_
  refine sm_istoreG hX td_143_69 rfl (by decide) ?_
  refine sm_iloadN hX td_143_71 rfl ?_
  refine sm_iconst hX td_143_72 ?_
  refine sm_icmp_lt hX 82 td_143_73 (by decide) (fun z => absurd z (by decide)) (fun _ => ?_)
  refine sm_iloadN hX td_143_76 rfl ?_
  refine sm_bipush hX td_143_77 ?_
  refine sm_icmp_le hX 99 td_143_79 (by decide) (fun _ => ?_) (fun z => absurd (by decide) z)
  refine sm_iconst hX td_143_99 ?_
  refine sm_goto hX 104 td_143_100 (by decide) ?_
  refine sm_istoreG hX td_143_104 rfl (by decide) ?_
  refine sm_iloadN hX td_143_106 rfl ?_
  refine sm_iconst hX td_143_107 ?_
  refine sm_icmp_lt hX 116 td_143_108 (by decide) (fun z => absurd z (by decide)) (fun _ => ?_)
  refine sm_iloadN hX td_143_111 rfl ?_
  refine sm_iconst hX td_143_112 ?_
  refine sm_icmp_le hX 127 td_143_113 (by decide) (fun z => absurd z (by decide)) (fun _ => ?_)
  refine sm_iloadN hX td_143_116 rfl ?_
  refine sm_bipush hX td_143_117 ?_
  refine sm_icmp_eq hX 127 td_143_119 (by decide) (fun z => absurd z (by decide)) (fun _ => ?_)
  refine sm_iloadG hX td_143_122 rfl ?_
  refine sm_if_eq hX 131 td_143_124 (by decide) (fun _ => ?_) (fun z => absurd (by decide) z)
  refine sm_iconst hX td_143_131 ?_
  refine sm_istoreG hX td_143_132 rfl (by decide) ?_
  exact k
theorem addm_7 {X : sm_X} {rm : Room} {N S : Nat} {ini : Bool} (hX : sm_ok tb_cl X prog_12_method_4_code 9 "ProgramSlicesModel" tb_W (some .int) rm N S ini) (d a b : Int32) (ad : Nat → Nat) (μ : sm_M) (k : sm_E tb_cl X 134 [some (.ref 46), some (.int (nI 7)), some (.int d), some (.int a), some (.int b), some (.int (Int32.ofInt 0)), some (.int (bJ (nD 7))), some (.int (bJ (nA 7))), some (.int (bJ (nB 7)))] [] ad ev_s2 μ) : sm_E tb_cl X 28 [some (.ref 46), some (.int (nI 7)), some (.int d), some (.int a), some (.int b), none, none, none, none] [] ad ev_s2 μ := by
  refine sm_iloadN hX td_143_28 rfl ?_
  refine sm_bipush hX td_143_29 ?_
  refine sm_icmp_lt hX 44 td_143_31 (by decide) (fun _ => ?_) (fun z => absurd (by decide) z)
  refine sm_iconst hX td_143_44 ?_
  refine sm_istoreG hX td_143_45 rfl (by decide) ?_
  refine sm_iloadN hX td_143_47 rfl ?_
  refine sm_bipush hX td_143_48 ?_
  refine sm_icmp_le hX 64 td_143_50 (by decide) (fun _ => ?_) (fun z => absurd (by decide) z)
  refine sm_iconst hX td_143_64 ?_
  refine sm_goto hX 69 td_143_65 (by decide) ?_
  refine sm_istoreG hX td_143_69 rfl (by decide) ?_
  refine sm_iloadN hX td_143_71 rfl ?_
  refine sm_iconst hX td_143_72 ?_
  refine sm_icmp_lt hX 82 td_143_73 (by decide) (fun z => absurd z (by decide)) (fun _ => ?_)
  refine sm_iloadN hX td_143_76 rfl ?_
  refine sm_bipush hX td_143_77 ?_
  refine sm_icmp_le hX 99 td_143_79 (by decide) (fun _ => ?_) (fun z => absurd (by decide) z)
  refine sm_iconst hX td_143_99 ?_
  refine sm_goto hX 104 td_143_100 (by decide) ?_
  refine sm_istoreG hX td_143_104 rfl (by decide) ?_
  refine sm_iloadN hX td_143_106 rfl ?_
  refine sm_iconst hX td_143_107 ?_
  refine sm_icmp_lt hX 116 td_143_108 (by decide) (fun z => absurd z (by decide)) (fun _ => ?_)
  refine sm_iloadN hX td_143_111 rfl ?_
  refine sm_iconst hX td_143_112 ?_
  refine sm_icmp_le hX 127 td_143_113 (by decide) (fun z => absurd z (by decide)) (fun _ => ?_)
  refine sm_iloadN hX td_143_116 rfl ?_
  refine sm_bipush hX td_143_117 ?_
  refine sm_icmp_eq hX 127 td_143_119 (by decide) (fun z => absurd z (by decide)) (fun _ => ?_)
  refine sm_iloadG hX td_143_122 rfl ?_
  refine sm_if_eq hX 131 td_143_124 (by decide) (fun _ => ?_) (fun z => absurd (by decide) z)
  refine sm_iconst hX td_143_131 ?_
  refine sm_istoreG hX td_143_132 rfl (by decide) ?_
  exact k
theorem addm_8 {X : sm_X} {rm : Room} {N S : Nat} {ini : Bool} (hX : sm_ok tb_cl X prog_12_method_4_code 9 "ProgramSlicesModel" tb_W (some .int) rm N S ini) (d a b : Int32) (ad : Nat → Nat) (μ : sm_M) (k : sm_E tb_cl X 134 [some (.ref 46), some (.int (nI 8)), some (.int d), some (.int a), some (.int b), some (.int (Int32.ofInt 0)), some (.int (bJ (nD 8))), some (.int (bJ (nA 8))), some (.int (bJ (nB 8)))] [] ad ev_s2 μ) : sm_E tb_cl X 28 [some (.ref 46), some (.int (nI 8)), some (.int d), some (.int a), some (.int b), none, none, none, none] [] ad ev_s2 μ := by
  refine sm_iloadN hX td_143_28 rfl ?_
  refine sm_bipush hX td_143_29 ?_
  refine sm_icmp_lt hX 44 td_143_31 (by decide) (fun _ => ?_) (fun z => absurd (by decide) z)
  refine sm_iconst hX td_143_44 ?_
  refine sm_istoreG hX td_143_45 rfl (by decide) ?_
  refine sm_iloadN hX td_143_47 rfl ?_
  refine sm_bipush hX td_143_48 ?_
  refine sm_icmp_le hX 64 td_143_50 (by decide) (fun z => absurd z (by decide)) (fun _ => ?_)
  refine sm_iloadG hX td_143_53 rfl ?_
  refine sm_if_ne hX 64 td_143_55 (by decide) (fun z => absurd z (by decide)) (fun _ => ?_)
  refine sm_iloadN hX td_143_58 rfl ?_
  refine sm_bipush hX td_143_59 ?_
  refine sm_icmp_ne hX 68 td_143_61 (by decide) (fun _ => ?_) (fun z => absurd z (by decide))
  refine sm_iconst hX td_143_68 ?_
  refine sm_istoreG hX td_143_69 rfl (by decide) ?_
  refine sm_iloadN hX td_143_71 rfl ?_
  refine sm_iconst hX td_143_72 ?_
  refine sm_icmp_lt hX 82 td_143_73 (by decide) (fun z => absurd z (by decide)) (fun _ => ?_)
  refine sm_iloadN hX td_143_76 rfl ?_
  refine sm_bipush hX td_143_77 ?_
  refine sm_icmp_le hX 99 td_143_79 (by decide) (fun _ => ?_) (fun z => absurd (by decide) z)
  refine sm_iconst hX td_143_99 ?_
  refine sm_goto hX 104 td_143_100 (by decide) ?_
  refine sm_istoreG hX td_143_104 rfl (by decide) ?_
  refine sm_iloadN hX td_143_106 rfl ?_
  refine sm_iconst hX td_143_107 ?_
  refine sm_icmp_lt hX 116 td_143_108 (by decide) (fun z => absurd z (by decide)) (fun _ => ?_)
  refine sm_iloadN hX td_143_111 rfl ?_
  refine sm_iconst hX td_143_112 ?_
  refine sm_icmp_le hX 127 td_143_113 (by decide) (fun z => absurd z (by decide)) (fun _ => ?_)
  refine sm_iloadN hX td_143_116 rfl ?_
  refine sm_bipush hX td_143_117 ?_
  refine sm_icmp_eq hX 127 td_143_119 (by decide) (fun _ => ?_) (fun z => absurd (by decide) z)
  refine sm_iconst hX td_143_127 ?_
  refine sm_goto hX 132 td_143_128 (by decide) ?_
  refine sm_istoreG hX td_143_132 rfl (by decide) ?_
  exact k
theorem addm_9 {X : sm_X} {rm : Room} {N S : Nat} {ini : Bool} (hX : sm_ok tb_cl X prog_12_method_4_code 9 "ProgramSlicesModel" tb_W (some .int) rm N S ini) (d a b : Int32) (ad : Nat → Nat) (μ : sm_M) (k : sm_E tb_cl X 134 [some (.ref 46), some (.int (nI 9)), some (.int d), some (.int a), some (.int b), some (.int (Int32.ofInt 0)), some (.int (bJ (nD 9))), some (.int (bJ (nA 9))), some (.int (bJ (nB 9)))] [] ad ev_s2 μ) : sm_E tb_cl X 28 [some (.ref 46), some (.int (nI 9)), some (.int d), some (.int a), some (.int b), none, none, none, none] [] ad ev_s2 μ := by
  refine sm_iloadN hX td_143_28 rfl ?_
  refine sm_bipush hX td_143_29 ?_
  refine sm_icmp_lt hX 44 td_143_31 (by decide) (fun _ => ?_) (fun z => absurd (by decide) z)
  refine sm_iconst hX td_143_44 ?_
  refine sm_istoreG hX td_143_45 rfl (by decide) ?_
  refine sm_iloadN hX td_143_47 rfl ?_
  refine sm_bipush hX td_143_48 ?_
  refine sm_icmp_le hX 64 td_143_50 (by decide) (fun z => absurd z (by decide)) (fun _ => ?_)
  refine sm_iloadG hX td_143_53 rfl ?_
  refine sm_if_ne hX 64 td_143_55 (by decide) (fun z => absurd z (by decide)) (fun _ => ?_)
  refine sm_iloadN hX td_143_58 rfl ?_
  refine sm_bipush hX td_143_59 ?_
  refine sm_icmp_ne hX 68 td_143_61 (by decide) (fun _ => ?_) (fun z => absurd z (by decide))
  refine sm_iconst hX td_143_68 ?_
  refine sm_istoreG hX td_143_69 rfl (by decide) ?_
  refine sm_iloadN hX td_143_71 rfl ?_
  refine sm_iconst hX td_143_72 ?_
  refine sm_icmp_lt hX 82 td_143_73 (by decide) (fun z => absurd z (by decide)) (fun _ => ?_)
  refine sm_iloadN hX td_143_76 rfl ?_
  refine sm_bipush hX td_143_77 ?_
  refine sm_icmp_le hX 99 td_143_79 (by decide) (fun _ => ?_) (fun z => absurd (by decide) z)
  refine sm_iconst hX td_143_99 ?_
  refine sm_goto hX 104 td_143_100 (by decide) ?_
  refine sm_istoreG hX td_143_104 rfl (by decide) ?_
  refine sm_iloadN hX td_143_106 rfl ?_
  refine sm_iconst hX td_143_107 ?_
  refine sm_icmp_lt hX 116 td_143_108 (by decide) (fun z => absurd z (by decide)) (fun _ => ?_)
  refine sm_iloadN hX td_143_111 rfl ?_
  refine sm_iconst hX td_143_112 ?_
  refine sm_icmp_le hX 127 td_143_113 (by decide) (fun z => absurd z (by decide)) (fun _ => ?_)
  refine sm_iloadN hX td_143_116 rfl ?_
  refine sm_bipush hX td_143_117 ?_
  refine sm_icmp_eq hX 127 td_143_119 (by decide) (fun z => absurd z (by decide)) (fun _ => ?_)
  refine sm_iloadG hX td_143_122 rfl ?_
  refine sm_if_eq hX 131 td_143_124 (by decide) (fun _ => ?_) (fun z => absurd (by decide) z)
  refine sm_iconst hX td_143_131 ?_
  refine sm_istoreG hX td_143_132 rfl (by decide) ?_
  exact k
theorem addm_10 {X : sm_X} {rm : Room} {N S : Nat} {ini : Bool} (hX : sm_ok tb_cl X prog_12_method_4_code 9 "ProgramSlicesModel" tb_W (some .int) rm N S ini) (d a b : Int32) (ad : Nat → Nat) (μ : sm_M) (k : sm_E tb_cl X 134 [some (.ref 46), some (.int (nI 10)), some (.int d), some (.int a), some (.int b), some (.int (Int32.ofInt 0)), some (.int (bJ (nD 10))), some (.int (bJ (nA 10))), some (.int (bJ (nB 10)))] [] ad ev_s2 μ) : sm_E tb_cl X 28 [some (.ref 46), some (.int (nI 10)), some (.int d), some (.int a), some (.int b), none, none, none, none] [] ad ev_s2 μ := by
  refine sm_iloadN hX td_143_28 rfl ?_
  refine sm_bipush hX td_143_29 ?_
  refine sm_icmp_lt hX 44 td_143_31 (by decide) (fun _ => ?_) (fun z => absurd (by decide) z)
  refine sm_iconst hX td_143_44 ?_
  refine sm_istoreG hX td_143_45 rfl (by decide) ?_
  refine sm_iloadN hX td_143_47 rfl ?_
  refine sm_bipush hX td_143_48 ?_
  refine sm_icmp_le hX 64 td_143_50 (by decide) (fun z => absurd z (by decide)) (fun _ => ?_)
  refine sm_iloadG hX td_143_53 rfl ?_
  refine sm_if_ne hX 64 td_143_55 (by decide) (fun z => absurd z (by decide)) (fun _ => ?_)
  refine sm_iloadN hX td_143_58 rfl ?_
  refine sm_bipush hX td_143_59 ?_
  refine sm_icmp_ne hX 68 td_143_61 (by decide) (fun _ => ?_) (fun z => absurd z (by decide))
  refine sm_iconst hX td_143_68 ?_
  refine sm_istoreG hX td_143_69 rfl (by decide) ?_
  refine sm_iloadN hX td_143_71 rfl ?_
  refine sm_iconst hX td_143_72 ?_
  refine sm_icmp_lt hX 82 td_143_73 (by decide) (fun z => absurd z (by decide)) (fun _ => ?_)
  refine sm_iloadN hX td_143_76 rfl ?_
  refine sm_bipush hX td_143_77 ?_
  refine sm_icmp_le hX 99 td_143_79 (by decide) (fun z => absurd z (by decide)) (fun _ => ?_)
  refine sm_iloadN hX td_143_82 rfl ?_
  refine sm_bipush hX td_143_83 ?_
  refine sm_icmp_eq hX 99 td_143_85 (by decide) (fun z => absurd z (by decide)) (fun _ => ?_)
  refine sm_iloadG hX td_143_88 rfl ?_
  refine sm_if_ne hX 99 td_143_90 (by decide) (fun z => absurd z (by decide)) (fun _ => ?_)
  refine sm_iloadN hX td_143_93 rfl ?_
  refine sm_bipush hX td_143_94 ?_
  refine sm_icmp_ne hX 103 td_143_96 (by decide) (fun _ => ?_) (fun z => absurd z (by decide))
  refine sm_iconst hX td_143_103 ?_
  refine sm_istoreG hX td_143_104 rfl (by decide) ?_
  refine sm_iloadN hX td_143_106 rfl ?_
  refine sm_iconst hX td_143_107 ?_
  refine sm_icmp_lt hX 116 td_143_108 (by decide) (fun z => absurd z (by decide)) (fun _ => ?_)
  refine sm_iloadN hX td_143_111 rfl ?_
  refine sm_iconst hX td_143_112 ?_
  refine sm_icmp_le hX 127 td_143_113 (by decide) (fun z => absurd z (by decide)) (fun _ => ?_)
  refine sm_iloadN hX td_143_116 rfl ?_
  refine sm_bipush hX td_143_117 ?_
  refine sm_icmp_eq hX 127 td_143_119 (by decide) (fun z => absurd z (by decide)) (fun _ => ?_)
  refine sm_iloadG hX td_143_122 rfl ?_
  refine sm_if_eq hX 131 td_143_124 (by decide) (fun _ => ?_) (fun z => absurd (by decide) z)
  refine sm_iconst hX td_143_131 ?_
  refine sm_istoreG hX td_143_132 rfl (by decide) ?_
  exact k
theorem addm_11 {X : sm_X} {rm : Room} {N S : Nat} {ini : Bool} (hX : sm_ok tb_cl X prog_12_method_4_code 9 "ProgramSlicesModel" tb_W (some .int) rm N S ini) (d a b : Int32) (ad : Nat → Nat) (μ : sm_M) (k : sm_E tb_cl X 134 [some (.ref 46), some (.int (nI 11)), some (.int d), some (.int a), some (.int b), some (.int (Int32.ofInt 0)), some (.int (bJ (nD 11))), some (.int (bJ (nA 11))), some (.int (bJ (nB 11)))] [] ad ev_s2 μ) : sm_E tb_cl X 28 [some (.ref 46), some (.int (nI 11)), some (.int d), some (.int a), some (.int b), none, none, none, none] [] ad ev_s2 μ := by
  refine sm_iloadN hX td_143_28 rfl ?_
  refine sm_bipush hX td_143_29 ?_
  refine sm_icmp_lt hX 44 td_143_31 (by decide) (fun _ => ?_) (fun z => absurd (by decide) z)
  refine sm_iconst hX td_143_44 ?_
  refine sm_istoreG hX td_143_45 rfl (by decide) ?_
  refine sm_iloadN hX td_143_47 rfl ?_
  refine sm_bipush hX td_143_48 ?_
  refine sm_icmp_le hX 64 td_143_50 (by decide) (fun z => absurd z (by decide)) (fun _ => ?_)
  refine sm_iloadG hX td_143_53 rfl ?_
  refine sm_if_ne hX 64 td_143_55 (by decide) (fun z => absurd z (by decide)) (fun _ => ?_)
  refine sm_iloadN hX td_143_58 rfl ?_
  refine sm_bipush hX td_143_59 ?_
  refine sm_icmp_ne hX 68 td_143_61 (by decide) (fun _ => ?_) (fun z => absurd z (by decide))
  refine sm_iconst hX td_143_68 ?_
  refine sm_istoreG hX td_143_69 rfl (by decide) ?_
  refine sm_iloadN hX td_143_71 rfl ?_
  refine sm_iconst hX td_143_72 ?_
  refine sm_icmp_lt hX 82 td_143_73 (by decide) (fun z => absurd z (by decide)) (fun _ => ?_)
  refine sm_iloadN hX td_143_76 rfl ?_
  refine sm_bipush hX td_143_77 ?_
  refine sm_icmp_le hX 99 td_143_79 (by decide) (fun z => absurd z (by decide)) (fun _ => ?_)
  refine sm_iloadN hX td_143_82 rfl ?_
  refine sm_bipush hX td_143_83 ?_
  refine sm_icmp_eq hX 99 td_143_85 (by decide) (fun _ => ?_) (fun z => absurd (by decide) z)
  refine sm_iconst hX td_143_99 ?_
  refine sm_goto hX 104 td_143_100 (by decide) ?_
  refine sm_istoreG hX td_143_104 rfl (by decide) ?_
  refine sm_iloadN hX td_143_106 rfl ?_
  refine sm_iconst hX td_143_107 ?_
  refine sm_icmp_lt hX 116 td_143_108 (by decide) (fun z => absurd z (by decide)) (fun _ => ?_)
  refine sm_iloadN hX td_143_111 rfl ?_
  refine sm_iconst hX td_143_112 ?_
  refine sm_icmp_le hX 127 td_143_113 (by decide) (fun z => absurd z (by decide)) (fun _ => ?_)
  refine sm_iloadN hX td_143_116 rfl ?_
  refine sm_bipush hX td_143_117 ?_
  refine sm_icmp_eq hX 127 td_143_119 (by decide) (fun z => absurd z (by decide)) (fun _ => ?_)
  refine sm_iloadG hX td_143_122 rfl ?_
  refine sm_if_eq hX 131 td_143_124 (by decide) (fun _ => ?_) (fun z => absurd (by decide) z)
  refine sm_iconst hX td_143_131 ?_
  refine sm_istoreG hX td_143_132 rfl (by decide) ?_
  exact k
theorem addm_12 {X : sm_X} {rm : Room} {N S : Nat} {ini : Bool} (hX : sm_ok tb_cl X prog_12_method_4_code 9 "ProgramSlicesModel" tb_W (some .int) rm N S ini) (d a b : Int32) (ad : Nat → Nat) (μ : sm_M) (k : sm_E tb_cl X 134 [some (.ref 46), some (.int (nI 12)), some (.int d), some (.int a), some (.int b), some (.int (Int32.ofInt 0)), some (.int (bJ (nD 12))), some (.int (bJ (nA 12))), some (.int (bJ (nB 12)))] [] ad ev_s2 μ) : sm_E tb_cl X 28 [some (.ref 46), some (.int (nI 12)), some (.int d), some (.int a), some (.int b), none, none, none, none] [] ad ev_s2 μ := by
  refine sm_iloadN hX td_143_28 rfl ?_
  refine sm_bipush hX td_143_29 ?_
  refine sm_icmp_lt hX 44 td_143_31 (by decide) (fun _ => ?_) (fun z => absurd (by decide) z)
  refine sm_iconst hX td_143_44 ?_
  refine sm_istoreG hX td_143_45 rfl (by decide) ?_
  refine sm_iloadN hX td_143_47 rfl ?_
  refine sm_bipush hX td_143_48 ?_
  refine sm_icmp_le hX 64 td_143_50 (by decide) (fun z => absurd z (by decide)) (fun _ => ?_)
  refine sm_iloadG hX td_143_53 rfl ?_
  refine sm_if_ne hX 64 td_143_55 (by decide) (fun z => absurd z (by decide)) (fun _ => ?_)
  refine sm_iloadN hX td_143_58 rfl ?_
  refine sm_bipush hX td_143_59 ?_
  refine sm_icmp_ne hX 68 td_143_61 (by decide) (fun _ => ?_) (fun z => absurd z (by decide))
  refine sm_iconst hX td_143_68 ?_
  refine sm_istoreG hX td_143_69 rfl (by decide) ?_
  refine sm_iloadN hX td_143_71 rfl ?_
  refine sm_iconst hX td_143_72 ?_
  refine sm_icmp_lt hX 82 td_143_73 (by decide) (fun z => absurd z (by decide)) (fun _ => ?_)
  refine sm_iloadN hX td_143_76 rfl ?_
  refine sm_bipush hX td_143_77 ?_
  refine sm_icmp_le hX 99 td_143_79 (by decide) (fun z => absurd z (by decide)) (fun _ => ?_)
  refine sm_iloadN hX td_143_82 rfl ?_
  refine sm_bipush hX td_143_83 ?_
  refine sm_icmp_eq hX 99 td_143_85 (by decide) (fun z => absurd z (by decide)) (fun _ => ?_)
  refine sm_iloadG hX td_143_88 rfl ?_
  refine sm_if_ne hX 99 td_143_90 (by decide) (fun z => absurd z (by decide)) (fun _ => ?_)
  refine sm_iloadN hX td_143_93 rfl ?_
  refine sm_bipush hX td_143_94 ?_
  refine sm_icmp_ne hX 103 td_143_96 (by decide) (fun _ => ?_) (fun z => absurd z (by decide))
  refine sm_iconst hX td_143_103 ?_
  refine sm_istoreG hX td_143_104 rfl (by decide) ?_
  refine sm_iloadN hX td_143_106 rfl ?_
  refine sm_iconst hX td_143_107 ?_
  refine sm_icmp_lt hX 116 td_143_108 (by decide) (fun z => absurd z (by decide)) (fun _ => ?_)
  refine sm_iloadN hX td_143_111 rfl ?_
  refine sm_iconst hX td_143_112 ?_
  refine sm_icmp_le hX 127 td_143_113 (by decide) (fun z => absurd z (by decide)) (fun _ => ?_)
  refine sm_iloadN hX td_143_116 rfl ?_
  refine sm_bipush hX td_143_117 ?_
  refine sm_icmp_eq hX 127 td_143_119 (by decide) (fun z => absurd z (by decide)) (fun _ => ?_)
  refine sm_iloadG hX td_143_122 rfl ?_
  refine sm_if_eq hX 131 td_143_124 (by decide) (fun _ => ?_) (fun z => absurd (by decide) z)
  refine sm_iconst hX td_143_131 ?_
  refine sm_istoreG hX td_143_132 rfl (by decide) ?_
  exact k
theorem addm_13 {X : sm_X} {rm : Room} {N S : Nat} {ini : Bool} (hX : sm_ok tb_cl X prog_12_method_4_code 9 "ProgramSlicesModel" tb_W (some .int) rm N S ini) (d a b : Int32) (ad : Nat → Nat) (μ : sm_M) (k : sm_E tb_cl X 134 [some (.ref 46), some (.int (nI 13)), some (.int d), some (.int a), some (.int b), some (.int (Int32.ofInt 1)), some (.int (bJ (nD 13))), some (.int (bJ (nA 13))), some (.int (bJ (nB 13)))] [] ad ev_s2 μ) : sm_E tb_cl X 28 [some (.ref 46), some (.int (nI 13)), some (.int d), some (.int a), some (.int b), none, none, none, none] [] ad ev_s2 μ := by
  refine sm_iloadN hX td_143_28 rfl ?_
  refine sm_bipush hX td_143_29 ?_
  refine sm_icmp_lt hX 44 td_143_31 (by decide) (fun z => absurd z (by decide)) (fun _ => ?_)
  refine sm_iloadN hX td_143_34 rfl ?_
  refine sm_bipush hX td_143_35 ?_
  refine sm_icmp_gt hX 44 td_143_37 (by decide) (fun z => absurd z (by decide)) (fun _ => ?_)
  refine sm_iconst hX td_143_40 ?_
  refine sm_goto hX 45 td_143_41 (by decide) ?_
  refine sm_istoreG hX td_143_45 rfl (by decide) ?_
  refine sm_iloadN hX td_143_47 rfl ?_
  refine sm_bipush hX td_143_48 ?_
  refine sm_icmp_le hX 64 td_143_50 (by decide) (fun z => absurd z (by decide)) (fun _ => ?_)
  refine sm_iloadG hX td_143_53 rfl ?_
  refine sm_if_ne hX 64 td_143_55 (by decide) (fun _ => ?_) (fun z => absurd z (by decide))
  refine sm_iconst hX td_143_64 ?_
  refine sm_goto hX 69 td_143_65 (by decide) ?_
  refine sm_istoreG hX td_143_69 rfl (by decide) ?_
  refine sm_iloadN hX td_143_71 rfl ?_
  refine sm_iconst hX td_143_72 ?_
  refine sm_icmp_lt hX 82 td_143_73 (by decide) (fun z => absurd z (by decide)) (fun _ => ?_)
  refine sm_iloadN hX td_143_76 rfl ?_
  refine sm_bipush hX td_143_77 ?_
  refine sm_icmp_le hX 99 td_143_79 (by decide) (fun z => absurd z (by decide)) (fun _ => ?_)
  refine sm_iloadN hX td_143_82 rfl ?_
  refine sm_bipush hX td_143_83 ?_
  refine sm_icmp_eq hX 99 td_143_85 (by decide) (fun z => absurd z (by decide)) (fun _ => ?_)
  refine sm_iloadG hX td_143_88 rfl ?_
  refine sm_if_ne hX 99 td_143_90 (by decide) (fun _ => ?_) (fun z => absurd z (by decide))
  refine sm_iconst hX td_143_99 ?_
  refine sm_goto hX 104 td_143_100 (by decide) ?_
  refine sm_istoreG hX td_143_104 rfl (by decide) ?_
  refine sm_iloadN hX td_143_106 rfl ?_
  refine sm_iconst hX td_143_107 ?_
  refine sm_icmp_lt hX 116 td_143_108 (by decide) (fun z => absurd z (by decide)) (fun _ => ?_)
  refine sm_iloadN hX td_143_111 rfl ?_
  refine sm_iconst hX td_143_112 ?_
  refine sm_icmp_le hX 127 td_143_113 (by decide) (fun z => absurd z (by decide)) (fun _ => ?_)
  refine sm_iloadN hX td_143_116 rfl ?_
  refine sm_bipush hX td_143_117 ?_
  refine sm_icmp_eq hX 127 td_143_119 (by decide) (fun z => absurd z (by decide)) (fun _ => ?_)
  refine sm_iloadG hX td_143_122 rfl ?_
  refine sm_if_eq hX 131 td_143_124 (by decide) (fun z => absurd z (by decide)) (fun _ => ?_)
  refine sm_iconst hX td_143_127 ?_
  refine sm_goto hX 132 td_143_128 (by decide) ?_
  refine sm_istoreG hX td_143_132 rfl (by decide) ?_
  exact k
theorem addm_14 {X : sm_X} {rm : Room} {N S : Nat} {ini : Bool} (hX : sm_ok tb_cl X prog_12_method_4_code 9 "ProgramSlicesModel" tb_W (some .int) rm N S ini) (d a b : Int32) (ad : Nat → Nat) (μ : sm_M) (k : sm_E tb_cl X 134 [some (.ref 46), some (.int (nI 14)), some (.int d), some (.int a), some (.int b), some (.int (Int32.ofInt 1)), some (.int (bJ (nD 14))), some (.int (bJ (nA 14))), some (.int (bJ (nB 14)))] [] ad ev_s2 μ) : sm_E tb_cl X 28 [some (.ref 46), some (.int (nI 14)), some (.int d), some (.int a), some (.int b), none, none, none, none] [] ad ev_s2 μ := by
  refine sm_iloadN hX td_143_28 rfl ?_
  refine sm_bipush hX td_143_29 ?_
  refine sm_icmp_lt hX 44 td_143_31 (by decide) (fun z => absurd z (by decide)) (fun _ => ?_)
  refine sm_iloadN hX td_143_34 rfl ?_
  refine sm_bipush hX td_143_35 ?_
  refine sm_icmp_gt hX 44 td_143_37 (by decide) (fun z => absurd z (by decide)) (fun _ => ?_)
  refine sm_iconst hX td_143_40 ?_
  refine sm_goto hX 45 td_143_41 (by decide) ?_
  refine sm_istoreG hX td_143_45 rfl (by decide) ?_
  refine sm_iloadN hX td_143_47 rfl ?_
  refine sm_bipush hX td_143_48 ?_
  refine sm_icmp_le hX 64 td_143_50 (by decide) (fun z => absurd z (by decide)) (fun _ => ?_)
  refine sm_iloadG hX td_143_53 rfl ?_
  refine sm_if_ne hX 64 td_143_55 (by decide) (fun _ => ?_) (fun z => absurd z (by decide))
  refine sm_iconst hX td_143_64 ?_
  refine sm_goto hX 69 td_143_65 (by decide) ?_
  refine sm_istoreG hX td_143_69 rfl (by decide) ?_
  refine sm_iloadN hX td_143_71 rfl ?_
  refine sm_iconst hX td_143_72 ?_
  refine sm_icmp_lt hX 82 td_143_73 (by decide) (fun z => absurd z (by decide)) (fun _ => ?_)
  refine sm_iloadN hX td_143_76 rfl ?_
  refine sm_bipush hX td_143_77 ?_
  refine sm_icmp_le hX 99 td_143_79 (by decide) (fun z => absurd z (by decide)) (fun _ => ?_)
  refine sm_iloadN hX td_143_82 rfl ?_
  refine sm_bipush hX td_143_83 ?_
  refine sm_icmp_eq hX 99 td_143_85 (by decide) (fun z => absurd z (by decide)) (fun _ => ?_)
  refine sm_iloadG hX td_143_88 rfl ?_
  refine sm_if_ne hX 99 td_143_90 (by decide) (fun _ => ?_) (fun z => absurd z (by decide))
  refine sm_iconst hX td_143_99 ?_
  refine sm_goto hX 104 td_143_100 (by decide) ?_
  refine sm_istoreG hX td_143_104 rfl (by decide) ?_
  refine sm_iloadN hX td_143_106 rfl ?_
  refine sm_iconst hX td_143_107 ?_
  refine sm_icmp_lt hX 116 td_143_108 (by decide) (fun z => absurd z (by decide)) (fun _ => ?_)
  refine sm_iloadN hX td_143_111 rfl ?_
  refine sm_iconst hX td_143_112 ?_
  refine sm_icmp_le hX 127 td_143_113 (by decide) (fun z => absurd z (by decide)) (fun _ => ?_)
  refine sm_iloadN hX td_143_116 rfl ?_
  refine sm_bipush hX td_143_117 ?_
  refine sm_icmp_eq hX 127 td_143_119 (by decide) (fun z => absurd z (by decide)) (fun _ => ?_)
  refine sm_iloadG hX td_143_122 rfl ?_
  refine sm_if_eq hX 131 td_143_124 (by decide) (fun z => absurd z (by decide)) (fun _ => ?_)
  refine sm_iconst hX td_143_127 ?_
  refine sm_goto hX 132 td_143_128 (by decide) ?_
  refine sm_istoreG hX td_143_132 rfl (by decide) ?_
  exact k
theorem addm_15 {X : sm_X} {rm : Room} {N S : Nat} {ini : Bool} (hX : sm_ok tb_cl X prog_12_method_4_code 9 "ProgramSlicesModel" tb_W (some .int) rm N S ini) (d a b : Int32) (ad : Nat → Nat) (μ : sm_M) (k : sm_E tb_cl X 134 [some (.ref 46), some (.int (nI 15)), some (.int d), some (.int a), some (.int b), some (.int (Int32.ofInt 1)), some (.int (bJ (nD 15))), some (.int (bJ (nA 15))), some (.int (bJ (nB 15)))] [] ad ev_s2 μ) : sm_E tb_cl X 28 [some (.ref 46), some (.int (nI 15)), some (.int d), some (.int a), some (.int b), none, none, none, none] [] ad ev_s2 μ := by
  refine sm_iloadN hX td_143_28 rfl ?_
  refine sm_bipush hX td_143_29 ?_
  refine sm_icmp_lt hX 44 td_143_31 (by decide) (fun z => absurd z (by decide)) (fun _ => ?_)
  refine sm_iloadN hX td_143_34 rfl ?_
  refine sm_bipush hX td_143_35 ?_
  refine sm_icmp_gt hX 44 td_143_37 (by decide) (fun z => absurd z (by decide)) (fun _ => ?_)
  refine sm_iconst hX td_143_40 ?_
  refine sm_goto hX 45 td_143_41 (by decide) ?_
  refine sm_istoreG hX td_143_45 rfl (by decide) ?_
  refine sm_iloadN hX td_143_47 rfl ?_
  refine sm_bipush hX td_143_48 ?_
  refine sm_icmp_le hX 64 td_143_50 (by decide) (fun z => absurd z (by decide)) (fun _ => ?_)
  refine sm_iloadG hX td_143_53 rfl ?_
  refine sm_if_ne hX 64 td_143_55 (by decide) (fun _ => ?_) (fun z => absurd z (by decide))
  refine sm_iconst hX td_143_64 ?_
  refine sm_goto hX 69 td_143_65 (by decide) ?_
  refine sm_istoreG hX td_143_69 rfl (by decide) ?_
  refine sm_iloadN hX td_143_71 rfl ?_
  refine sm_iconst hX td_143_72 ?_
  refine sm_icmp_lt hX 82 td_143_73 (by decide) (fun z => absurd z (by decide)) (fun _ => ?_)
  refine sm_iloadN hX td_143_76 rfl ?_
  refine sm_bipush hX td_143_77 ?_
  refine sm_icmp_le hX 99 td_143_79 (by decide) (fun z => absurd z (by decide)) (fun _ => ?_)
  refine sm_iloadN hX td_143_82 rfl ?_
  refine sm_bipush hX td_143_83 ?_
  refine sm_icmp_eq hX 99 td_143_85 (by decide) (fun z => absurd z (by decide)) (fun _ => ?_)
  refine sm_iloadG hX td_143_88 rfl ?_
  refine sm_if_ne hX 99 td_143_90 (by decide) (fun _ => ?_) (fun z => absurd z (by decide))
  refine sm_iconst hX td_143_99 ?_
  refine sm_goto hX 104 td_143_100 (by decide) ?_
  refine sm_istoreG hX td_143_104 rfl (by decide) ?_
  refine sm_iloadN hX td_143_106 rfl ?_
  refine sm_iconst hX td_143_107 ?_
  refine sm_icmp_lt hX 116 td_143_108 (by decide) (fun z => absurd z (by decide)) (fun _ => ?_)
  refine sm_iloadN hX td_143_111 rfl ?_
  refine sm_iconst hX td_143_112 ?_
  refine sm_icmp_le hX 127 td_143_113 (by decide) (fun z => absurd z (by decide)) (fun _ => ?_)
  refine sm_iloadN hX td_143_116 rfl ?_
  refine sm_bipush hX td_143_117 ?_
  refine sm_icmp_eq hX 127 td_143_119 (by decide) (fun z => absurd z (by decide)) (fun _ => ?_)
  refine sm_iloadG hX td_143_122 rfl ?_
  refine sm_if_eq hX 131 td_143_124 (by decide) (fun z => absurd z (by decide)) (fun _ => ?_)
  refine sm_iconst hX td_143_127 ?_
  refine sm_goto hX 132 td_143_128 (by decide) ?_
  refine sm_istoreG hX td_143_132 rfl (by decide) ?_
  exact k
theorem addm_16 {X : sm_X} {rm : Room} {N S : Nat} {ini : Bool} (hX : sm_ok tb_cl X prog_12_method_4_code 9 "ProgramSlicesModel" tb_W (some .int) rm N S ini) (d a b : Int32) (ad : Nat → Nat) (μ : sm_M) (k : sm_E tb_cl X 134 [some (.ref 46), some (.int (nI 16)), some (.int d), some (.int a), some (.int b), some (.int (Int32.ofInt 1)), some (.int (bJ (nD 16))), some (.int (bJ (nA 16))), some (.int (bJ (nB 16)))] [] ad ev_s2 μ) : sm_E tb_cl X 28 [some (.ref 46), some (.int (nI 16)), some (.int d), some (.int a), some (.int b), none, none, none, none] [] ad ev_s2 μ := by
  refine sm_iloadN hX td_143_28 rfl ?_
  refine sm_bipush hX td_143_29 ?_
  refine sm_icmp_lt hX 44 td_143_31 (by decide) (fun z => absurd z (by decide)) (fun _ => ?_)
  refine sm_iloadN hX td_143_34 rfl ?_
  refine sm_bipush hX td_143_35 ?_
  refine sm_icmp_gt hX 44 td_143_37 (by decide) (fun z => absurd z (by decide)) (fun _ => ?_)
  refine sm_iconst hX td_143_40 ?_
  refine sm_goto hX 45 td_143_41 (by decide) ?_
  refine sm_istoreG hX td_143_45 rfl (by decide) ?_
  refine sm_iloadN hX td_143_47 rfl ?_
  refine sm_bipush hX td_143_48 ?_
  refine sm_icmp_le hX 64 td_143_50 (by decide) (fun z => absurd z (by decide)) (fun _ => ?_)
  refine sm_iloadG hX td_143_53 rfl ?_
  refine sm_if_ne hX 64 td_143_55 (by decide) (fun _ => ?_) (fun z => absurd z (by decide))
  refine sm_iconst hX td_143_64 ?_
  refine sm_goto hX 69 td_143_65 (by decide) ?_
  refine sm_istoreG hX td_143_69 rfl (by decide) ?_
  refine sm_iloadN hX td_143_71 rfl ?_
  refine sm_iconst hX td_143_72 ?_
  refine sm_icmp_lt hX 82 td_143_73 (by decide) (fun z => absurd z (by decide)) (fun _ => ?_)
  refine sm_iloadN hX td_143_76 rfl ?_
  refine sm_bipush hX td_143_77 ?_
  refine sm_icmp_le hX 99 td_143_79 (by decide) (fun z => absurd z (by decide)) (fun _ => ?_)
  refine sm_iloadN hX td_143_82 rfl ?_
  refine sm_bipush hX td_143_83 ?_
  refine sm_icmp_eq hX 99 td_143_85 (by decide) (fun z => absurd z (by decide)) (fun _ => ?_)
  refine sm_iloadG hX td_143_88 rfl ?_
  refine sm_if_ne hX 99 td_143_90 (by decide) (fun _ => ?_) (fun z => absurd z (by decide))
  refine sm_iconst hX td_143_99 ?_
  refine sm_goto hX 104 td_143_100 (by decide) ?_
  refine sm_istoreG hX td_143_104 rfl (by decide) ?_
  refine sm_iloadN hX td_143_106 rfl ?_
  refine sm_iconst hX td_143_107 ?_
  refine sm_icmp_lt hX 116 td_143_108 (by decide) (fun z => absurd z (by decide)) (fun _ => ?_)
  refine sm_iloadN hX td_143_111 rfl ?_
  refine sm_iconst hX td_143_112 ?_
  refine sm_icmp_le hX 127 td_143_113 (by decide) (fun z => absurd z (by decide)) (fun _ => ?_)
  refine sm_iloadN hX td_143_116 rfl ?_
  refine sm_bipush hX td_143_117 ?_
  refine sm_icmp_eq hX 127 td_143_119 (by decide) (fun z => absurd z (by decide)) (fun _ => ?_)
  refine sm_iloadG hX td_143_122 rfl ?_
  refine sm_if_eq hX 131 td_143_124 (by decide) (fun z => absurd z (by decide)) (fun _ => ?_)
  refine sm_iconst hX td_143_127 ?_
  refine sm_goto hX 132 td_143_128 (by decide) ?_
  refine sm_istoreG hX td_143_132 rfl (by decide) ?_
  exact k
theorem addm_17 {X : sm_X} {rm : Room} {N S : Nat} {ini : Bool} (hX : sm_ok tb_cl X prog_12_method_4_code 9 "ProgramSlicesModel" tb_W (some .int) rm N S ini) (d a b : Int32) (ad : Nat → Nat) (μ : sm_M) (k : sm_E tb_cl X 134 [some (.ref 46), some (.int (nI 17)), some (.int d), some (.int a), some (.int b), some (.int (Int32.ofInt 0)), some (.int (bJ (nD 17))), some (.int (bJ (nA 17))), some (.int (bJ (nB 17)))] [] ad ev_s2 μ) : sm_E tb_cl X 28 [some (.ref 46), some (.int (nI 17)), some (.int d), some (.int a), some (.int b), none, none, none, none] [] ad ev_s2 μ := by
  refine sm_iloadN hX td_143_28 rfl ?_
  refine sm_bipush hX td_143_29 ?_
  refine sm_icmp_lt hX 44 td_143_31 (by decide) (fun z => absurd z (by decide)) (fun _ => ?_)
  refine sm_iloadN hX td_143_34 rfl ?_
  refine sm_bipush hX td_143_35 ?_
  refine sm_icmp_gt hX 44 td_143_37 (by decide) (fun _ => ?_) (fun z => absurd (by decide) z)
  refine sm_iconst hX td_143_44 ?_
  refine sm_istoreG hX td_143_45 rfl (by decide) ?_
  refine sm_iloadN hX td_143_47 rfl ?_
  refine sm_bipush hX td_143_48 ?_
  refine sm_icmp_le hX 64 td_143_50 (by decide) (fun z => absurd z (by decide)) (fun _ => ?_)
  refine sm_iloadG hX td_143_53 rfl ?_
  refine sm_if_ne hX 64 td_143_55 (by decide) (fun z => absurd z (by decide)) (fun _ => ?_)
  refine sm_iloadN hX td_143_58 rfl ?_
  refine sm_bipush hX td_143_59 ?_
  refine sm_icmp_ne hX 68 td_143_61 (by decide) (fun z => absurd z (by decide)) (fun _ => ?_)
  refine sm_iconst hX td_143_64 ?_
  refine sm_goto hX 69 td_143_65 (by decide) ?_
  refine sm_istoreG hX td_143_69 rfl (by decide) ?_
  refine sm_iloadN hX td_143_71 rfl ?_
  refine sm_iconst hX td_143_72 ?_
  refine sm_icmp_lt hX 82 td_143_73 (by decide) (fun z => absurd z (by decide)) (fun _ => ?_)
  refine sm_iloadN hX td_143_76 rfl ?_
  refine sm_bipush hX td_143_77 ?_
  refine sm_icmp_le hX 99 td_143_79 (by decide) (fun z => absurd z (by decide)) (fun _ => ?_)
  refine sm_iloadN hX td_143_82 rfl ?_
  refine sm_bipush hX td_143_83 ?_
  refine sm_icmp_eq hX 99 td_143_85 (by decide) (fun z => absurd z (by decide)) (fun _ => ?_)
  refine sm_iloadG hX td_143_88 rfl ?_
  refine sm_if_ne hX 99 td_143_90 (by decide) (fun z => absurd z (by decide)) (fun _ => ?_)
  refine sm_iloadN hX td_143_93 rfl ?_
  refine sm_bipush hX td_143_94 ?_
  refine sm_icmp_ne hX 103 td_143_96 (by decide) (fun z => absurd z (by decide)) (fun _ => ?_)
  refine sm_iconst hX td_143_99 ?_
  refine sm_goto hX 104 td_143_100 (by decide) ?_
  refine sm_istoreG hX td_143_104 rfl (by decide) ?_
  refine sm_iloadN hX td_143_106 rfl ?_
  refine sm_iconst hX td_143_107 ?_
  refine sm_icmp_lt hX 116 td_143_108 (by decide) (fun z => absurd z (by decide)) (fun _ => ?_)
  refine sm_iloadN hX td_143_111 rfl ?_
  refine sm_iconst hX td_143_112 ?_
  refine sm_icmp_le hX 127 td_143_113 (by decide) (fun z => absurd z (by decide)) (fun _ => ?_)
  refine sm_iloadN hX td_143_116 rfl ?_
  refine sm_bipush hX td_143_117 ?_
  refine sm_icmp_eq hX 127 td_143_119 (by decide) (fun z => absurd z (by decide)) (fun _ => ?_)
  refine sm_iloadG hX td_143_122 rfl ?_
  refine sm_if_eq hX 131 td_143_124 (by decide) (fun _ => ?_) (fun z => absurd (by decide) z)
  refine sm_iconst hX td_143_131 ?_
  refine sm_istoreG hX td_143_132 rfl (by decide) ?_
  exact k
theorem addm_18 {X : sm_X} {rm : Room} {N S : Nat} {ini : Bool} (hX : sm_ok tb_cl X prog_12_method_4_code 9 "ProgramSlicesModel" tb_W (some .int) rm N S ini) (d a b : Int32) (ad : Nat → Nat) (μ : sm_M) (k : sm_E tb_cl X 134 [some (.ref 46), some (.int (nI 18)), some (.int d), some (.int a), some (.int b), some (.int (Int32.ofInt 0)), some (.int (bJ (nD 18))), some (.int (bJ (nA 18))), some (.int (bJ (nB 18)))] [] ad ev_s2 μ) : sm_E tb_cl X 28 [some (.ref 46), some (.int (nI 18)), some (.int d), some (.int a), some (.int b), none, none, none, none] [] ad ev_s2 μ := by
  refine sm_iloadN hX td_143_28 rfl ?_
  refine sm_bipush hX td_143_29 ?_
  refine sm_icmp_lt hX 44 td_143_31 (by decide) (fun z => absurd z (by decide)) (fun _ => ?_)
  refine sm_iloadN hX td_143_34 rfl ?_
  refine sm_bipush hX td_143_35 ?_
  refine sm_icmp_gt hX 44 td_143_37 (by decide) (fun _ => ?_) (fun z => absurd (by decide) z)
  refine sm_iconst hX td_143_44 ?_
  refine sm_istoreG hX td_143_45 rfl (by decide) ?_
  refine sm_iloadN hX td_143_47 rfl ?_
  refine sm_bipush hX td_143_48 ?_
  refine sm_icmp_le hX 64 td_143_50 (by decide) (fun z => absurd z (by decide)) (fun _ => ?_)
  refine sm_iloadG hX td_143_53 rfl ?_
  refine sm_if_ne hX 64 td_143_55 (by decide) (fun z => absurd z (by decide)) (fun _ => ?_)
  refine sm_iloadN hX td_143_58 rfl ?_
  refine sm_bipush hX td_143_59 ?_
  refine sm_icmp_ne hX 68 td_143_61 (by decide) (fun _ => ?_) (fun z => absurd z (by decide))
  refine sm_iconst hX td_143_68 ?_
  refine sm_istoreG hX td_143_69 rfl (by decide) ?_
  refine sm_iloadN hX td_143_71 rfl ?_
  refine sm_iconst hX td_143_72 ?_
  refine sm_icmp_lt hX 82 td_143_73 (by decide) (fun z => absurd z (by decide)) (fun _ => ?_)
  refine sm_iloadN hX td_143_76 rfl ?_
  refine sm_bipush hX td_143_77 ?_
  refine sm_icmp_le hX 99 td_143_79 (by decide) (fun z => absurd z (by decide)) (fun _ => ?_)
  refine sm_iloadN hX td_143_82 rfl ?_
  refine sm_bipush hX td_143_83 ?_
  refine sm_icmp_eq hX 99 td_143_85 (by decide) (fun z => absurd z (by decide)) (fun _ => ?_)
  refine sm_iloadG hX td_143_88 rfl ?_
  refine sm_if_ne hX 99 td_143_90 (by decide) (fun z => absurd z (by decide)) (fun _ => ?_)
  refine sm_iloadN hX td_143_93 rfl ?_
  refine sm_bipush hX td_143_94 ?_
  refine sm_icmp_ne hX 103 td_143_96 (by decide) (fun _ => ?_) (fun z => absurd z (by decide))
  refine sm_iconst hX td_143_103 ?_
  refine sm_istoreG hX td_143_104 rfl (by decide) ?_
  refine sm_iloadN hX td_143_106 rfl ?_
  refine sm_iconst hX td_143_107 ?_
  refine sm_icmp_lt hX 116 td_143_108 (by decide) (fun z => absurd z (by decide)) (fun _ => ?_)
  refine sm_iloadN hX td_143_111 rfl ?_
  refine sm_iconst hX td_143_112 ?_
  refine sm_icmp_le hX 127 td_143_113 (by decide) (fun z => absurd z (by decide)) (fun _ => ?_)
  refine sm_iloadN hX td_143_116 rfl ?_
  refine sm_bipush hX td_143_117 ?_
  refine sm_icmp_eq hX 127 td_143_119 (by decide) (fun z => absurd z (by decide)) (fun _ => ?_)
  refine sm_iloadG hX td_143_122 rfl ?_
  refine sm_if_eq hX 131 td_143_124 (by decide) (fun _ => ?_) (fun z => absurd (by decide) z)
  refine sm_iconst hX td_143_131 ?_
  refine sm_istoreG hX td_143_132 rfl (by decide) ?_
  exact k
theorem bJ_0 {b : Bool} (h : bJ b = 0) : b = false := by cases b with | false => rfl | true => exact absurd h (by decide)
theorem bJ_1 {b : Bool} (h : ¬ bJ b = 0) : b = true := by cases b with | true => rfl | false => exact absurd (by decide) h
theorem addm_tail {Z : sm_Z} (hZ : Z.2.2.2 = tb_N) {X : sm_X} (hXZ : X.1 = Z) (op d a b c : Int32) (x y z : Bool) (ad : Nat → Nat) (μ : sm_M) (h : dp_le ev_Pm μ) (hX : sm_ok tb_cl X prog_12_method_4_code 9 "ProgramSlicesModel" tb_W (some .int) (dp_rm 2 64 ev_s2 ev_s2) (List.length ev_s2 + (dp_rm 2 64 ev_s2 ev_s2).cells) (sm_sl ev_s2 + (dp_rm 2 64 ev_s2 ev_s2).slots) ((tb_ys 143).name == "<init>")) (hf : sm_fin tb_cl X ad ev_s2 (dp_rm 2 64 ev_s2 ev_s2).cells (dp_rm 2 64 ev_s2 ev_s2).slots (fun r sh' μ' => r = some (.int (aI (okb x y z d a b))) ∧ sh' = ev_s2)) : sm_E tb_cl X 134 [some (.ref 46), some (.int op), some (.int d), some (.int a), some (.int b), some (.int c), some (.int (bJ x)), some (.int (bJ y)), some (.int (bJ z))] [] ad ev_s2 μ := by
    subst hXZ
    have hc : μ.1 46 0 = 0 := h.1 46 0 0 (by decide +kernel)
    have no : okb x y z d a b = false → sm_E tb_cl X 171 [some (.ref 46), some (.int op), some (.int d), some (.int a), some (.int b), some (.int c), some (.int (bJ x)), some (.int (bJ y)), some (.int (bJ z))] [] ad ev_s2 μ := fun hb => by
      rw [hb] at hf
      refine sm_iconst hX td_143_171 ?_
      exact sm_iret hX hf rfl rfl (fun _ _ => rfl) rfl td_143_172 ⟨rfl, rfl⟩
    have yes : okb x y z d a b = true → sm_E tb_cl X 173 [some (.ref 46), some (.int op), some (.int d), some (.int a), some (.int b), some (.int c), some (.int (bJ x)), some (.int (bJ y)), some (.int (bJ z))] [] ad ev_s2 μ := fun hb => by
      rw [hb] at hf
      refine sm_aloadN hX td_143_173 rfl ?_
      refine sm_getR hX (k := 1) (q := 47) (ci := 10) (T := tb_T10) (N' := 38) (C := "ProgramSlicesModel") rfl rfl (by decide) rfl tb_u10 tb_w632 td_143_174 ?_
      refine sm_aloadN hX td_143_177 rfl ?_
      refine sm_getI hX (k := 0) (ci := 10) (T := tb_T10) (N' := 38) (C := "ProgramSlicesModel") rfl rfl (by decide) rfl tb_u10 tb_w631 td_143_178 ?_
      rw [show (μ).1 46 0 = 0 from hc]
      refine sm_iloadN hX td_143_181 rfl ?_
      refine sm_iast hX (p := 47) (len := 32) rfl in0_32 td_143_182 ?_
      refine sm_aloadN hX td_143_183 rfl ?_
      refine sm_getR hX (k := 2) (q := 48) (ci := 10) (T := tb_T10) (N' := 38) (C := "ProgramSlicesModel") rfl rfl (by decide) rfl tb_u10 tb_w633 td_143_184 ?_
      refine sm_aloadN hX td_143_187 rfl ?_
      refine sm_getI hX (k := 0) (ci := 10) (T := tb_T10) (N' := 38) (C := "ProgramSlicesModel") rfl rfl (by decide) rfl tb_u10 tb_w631 td_143_188 ?_
      rw [show (sm_ui (μ) 47 (0 : Int32).toNatClampNeg op).1 46 0 = 0 from hc]
      refine sm_iloadN hX td_143_191 rfl ?_
      refine sm_iast hX (p := 48) (len := 32) rfl in0_32 td_143_192 ?_
      refine sm_aloadN hX td_143_193 rfl ?_
      refine sm_getR hX (k := 3) (q := 49) (ci := 10) (T := tb_T10) (N' := 38) (C := "ProgramSlicesModel") rfl rfl (by decide) rfl tb_u10 tb_w634 td_143_194 ?_
      refine sm_aloadN hX td_143_197 rfl ?_
      refine sm_getI hX (k := 0) (ci := 10) (T := tb_T10) (N' := 38) (C := "ProgramSlicesModel") rfl rfl (by decide) rfl tb_u10 tb_w631 td_143_198 ?_
      rw [show (sm_ui (sm_ui (μ) 47 (0 : Int32).toNatClampNeg op) 48 (0 : Int32).toNatClampNeg d).1 46 0 = 0 from hc]
      refine sm_iloadN hX td_143_201 rfl ?_
      refine sm_iast hX (p := 49) (len := 32) rfl in0_32 td_143_202 ?_
      refine sm_aloadN hX td_143_203 rfl ?_
      refine sm_getR hX (k := 4) (q := 50) (ci := 10) (T := tb_T10) (N' := 38) (C := "ProgramSlicesModel") rfl rfl (by decide) rfl tb_u10 tb_w635 td_143_204 ?_
      refine sm_aloadN hX td_143_207 rfl ?_
      refine sm_getI hX (k := 0) (ci := 10) (T := tb_T10) (N' := 38) (C := "ProgramSlicesModel") rfl rfl (by decide) rfl tb_u10 tb_w631 td_143_208 ?_
      rw [show (sm_ui (sm_ui (sm_ui (μ) 47 (0 : Int32).toNatClampNeg op) 48 (0 : Int32).toNatClampNeg d) 49 (0 : Int32).toNatClampNeg a).1 46 0 = 0 from hc]
      refine sm_iloadG hX td_143_211 rfl ?_
      refine sm_iast hX (p := 50) (len := 32) rfl in0_32 td_143_213 ?_
      refine sm_aloadN hX td_143_214 rfl ?_
      refine sm_dup hX td_143_215 rfl ?_
      refine sm_getI hX (k := 0) (ci := 10) (T := tb_T10) (N' := 38) (C := "ProgramSlicesModel") rfl rfl (by decide) rfl tb_u10 tb_w631 td_143_216 ?_
      rw [show (sm_ui (sm_ui (sm_ui (sm_ui (μ) 47 (0 : Int32).toNatClampNeg op) 48 (0 : Int32).toNatClampNeg d) 49 (0 : Int32).toNatClampNeg a) 50 (0 : Int32).toNatClampNeg b).1 46 0 = 0 from hc]
      refine sm_iconst hX td_143_219 ?_
      refine sm_iadd hX td_143_220 ?_
      refine sm_put hX (k := 0) (ci := 10) (T := tb_T10) (N' := 38) (C := "ProgramSlicesModel") (ty := .int) rfl rfl ⟨tb_t10, rfl, by decide, tb_u10, tb_y10, tb_n10, rfl, rfl⟩ tb_w631 rfl rfl td_143_221 ?_
      refine sm_aloadN hX td_143_224 rfl ?_
      refine sm_getI hX (k := 0) (ci := 10) (T := tb_T10) (N' := 38) (C := "ProgramSlicesModel") rfl rfl (by decide) rfl tb_u10 tb_w631 td_143_225 ?_
      rw [show (sm_ui (sm_ui (sm_ui (sm_ui (sm_ui (μ) 47 (0 : Int32).toNatClampNeg op) 48 (0 : Int32).toNatClampNeg d) 49 (0 : Int32).toNatClampNeg a) 50 (0 : Int32).toNatClampNeg b) 46 0 (0 + Int32.ofInt 1)).1 46 0 = 1 from rfl]
      refine sm_iconst hX td_143_228 ?_
      refine sm_isub hX td_143_229 ?_
      exact sm_iret hX hf rfl rfl (fun _ _ => rfl) rfl td_143_230 ⟨rfl, rfl⟩
    have b158 : (!x || fb d) = true → (!y || fb a) = true → sm_E tb_cl X 158 [some (.ref 46), some (.int op), some (.int d), some (.int a), some (.int b), some (.int c), some (.int (bJ x)), some (.int (bJ y)), some (.int (bJ z))] [] ad ev_s2 μ := fun k1 k2 => by
      refine sm_iloadG hX td_143_158 rfl ?_
      refine sm_if_eq hX 173 td_143_160 (by decide) (fun q => yes (by unfold okb; rw [k1, k2, bJ_0 q]; rfl)) (fun q => ?_)
      have q := bJ_1 q
      refine sm_iloadG hX td_143_163 rfl ?_
      refine tb_s11_0 _ X _ _ _ _ _ _ hZ hX _ _ [] ad ev_s2 μ [.int b] _ (dp_rm 1 32 ev_s2 ev_s2) rfl trivial (f4m_C b ad μ) (by decide) (by decide) (by decide) (by decide) (by decide) td_143_165 (fun v ad' sh' μ' e1 e2 hag hq => ?_)
      obtain ⟨rfl, rfl, hm⟩ := hq
      rw [sm_ag_eq hag, hm]
      refine ⟨Or.inl (by decide), ?_⟩
      exact sm_if_ne hX 173 td_143_168 (by decide) (fun g => yes (by unfold okb; rw [k1, k2, q, bI_1 g]; rfl)) (fun g => no (by unfold okb; rw [k1, k2, q, bI_0 g]; rfl))
    have b146 : (!x || fb d) = true → sm_E tb_cl X 146 [some (.ref 46), some (.int op), some (.int d), some (.int a), some (.int b), some (.int c), some (.int (bJ x)), some (.int (bJ y)), some (.int (bJ z))] [] ad ev_s2 μ := fun k1 => by
      refine sm_iloadG hX td_143_146 rfl ?_
      refine sm_if_eq hX 158 td_143_148 (by decide) (fun q => b158 k1 (by rw [bJ_0 q]; rfl)) (fun q => ?_)
      have q := bJ_1 q
      refine sm_iloadN hX td_143_151 rfl ?_
      refine tb_s11_0 _ X _ _ _ _ _ _ hZ hX _ _ [] ad ev_s2 μ [.int a] _ (dp_rm 1 32 ev_s2 ev_s2) rfl trivial (f4m_C a ad μ) (by decide) (by decide) (by decide) (by decide) (by decide) td_143_152 (fun v ad' sh' μ' e1 e2 hag hq => ?_)
      obtain ⟨rfl, rfl, hm⟩ := hq
      rw [sm_ag_eq hag, hm]
      refine ⟨Or.inl (by decide), ?_⟩
      exact sm_if_eq hX 171 td_143_155 (by decide) (fun g => no (by unfold okb; rw [k1, q, bI_0 g]; rfl)) (fun g => b158 k1 (by rw [bI_1 g, Bool.or_true]))
    refine sm_iloadG hX td_143_134 rfl ?_
    refine sm_if_eq hX 146 td_143_136 (by decide) (fun q => b146 (by rw [bJ_0 q]; rfl)) (fun q => ?_)
    have q := bJ_1 q
    refine sm_iloadN hX td_143_139 rfl ?_
    refine tb_s11_0 _ X _ _ _ _ _ _ hZ hX _ _ [] ad ev_s2 μ [.int d] _ (dp_rm 1 32 ev_s2 ev_s2) rfl trivial (f4m_C d ad μ) (by decide) (by decide) (by decide) (by decide) (by decide) td_143_140 (fun v ad' sh' μ' e1 e2 hag hq => ?_)
    obtain ⟨rfl, rfl, hm⟩ := hq
    rw [sm_ag_eq hag, hm]
    refine ⟨Or.inl (by decide), ?_⟩
    exact sm_if_eq hX 171 td_143_143 (by decide) (fun g => no (by unfold okb; rw [q, bI_0 g]; rfl)) (fun g => b146 (by rw [bI_1 g, Bool.or_true]))
theorem addm_C {Z : sm_Z} (hZ : Z.2.2.2 = tb_N) (op d a b : Int32) (ad : Nat → Nat) (μ : sm_M) (h : dp_le ev_Pm μ) : sm_C tb_cl Z (tb_ys 143) (tb_ws 143) (dp_rm 2 64 ev_s2 ev_s2) [.ref 46, .int op, .int d, .int a, .int b] ad ev_s2 μ (fun r sh' μ' => r = some (.int (aI (okop op d a b))) ∧ sh' = ev_s2) := by
    refine sm_enter (cc := prog_12_method_4_code) (nL := 9) (ret := some .int) (by decide +kernel) (Nat.le_of_ble_eq_true rfl) (fun X hXZ hX hf => ?_)
    rw [show (tb_ys 143).cls = "ProgramSlicesModel" by decide +kernel] at hX
    have hc : μ.1 46 0 = 0 := h.1 46 0 0 (by decide +kernel)
    have hbu : μ.1 46 5 = 0 := h.1 46 5 0 (by decide +kernel)
    have out : okop op d a b = false → ∀ L, sm_E tb_cl X 26 L [] ad ev_s2 μ := fun hb L => by
      rw [hb] at hf
      refine sm_iconst hX td_143_26 ?_
      exact sm_iret hX hf rfl rfl (fun _ _ => rfl) rfl td_143_27 ⟨rfl, rfl⟩
    refine sm_aloadN hX td_143_0 rfl ?_
    refine sm_getI hX (k := 5) (ci := 10) (T := tb_T10) (N' := 38) (C := "ProgramSlicesModel") rfl rfl (by decide) rfl tb_u10 tb_w636 td_143_1 ?_
    rw [hbu]
    refine sm_if_ne hX 26 td_143_4 (by decide) (fun z => absurd rfl z) (fun _ => ?_)
    refine sm_aloadN hX td_143_7 rfl ?_
    refine sm_getI hX (k := 0) (ci := 10) (T := tb_T10) (N' := 38) (C := "ProgramSlicesModel") rfl rfl (by decide) rfl tb_u10 tb_w631 td_143_8 ?_
    rw [hc]
    refine sm_bipush hX td_143_11 ?_
    refine sm_icmp_eq hX 26 td_143_13 (by decide) (fun z => absurd z (by decide)) (fun _ => ?_)
    refine sm_iloadN hX td_143_16 rfl ?_
    refine sm_if_lt hX 26 td_143_17 (by decide) (fun z => out (okop_neg z) _) (fun z1 => ?_)
    refine sm_iloadN hX td_143_20 rfl ?_
    refine sm_bipush hX td_143_21 ?_
    refine sm_icmp_le hX 28 td_143_23 (by decide) (fun z2 => ?_) (fun z => out (okop_big z) _)
    rcases op_cases op with ho | ho | ⟨j, hj, rfl⟩
    · exact absurd ho z1
    · exact absurd z2 ho
    rw [okop_in hj] at hf
    clear out
    rcases (show j = 0 ∨ j = 1 ∨ j = 2 ∨ j = 3 ∨ j = 4 ∨ j = 5 ∨ j = 6 ∨ j = 7 ∨ j = 8 ∨ j = 9 ∨ j = 10 ∨ j = 11 ∨ j = 12 ∨ j = 13 ∨ j = 14 ∨ j = 15 ∨ j = 16 ∨ j = 17 ∨ j = 18 by omega) with rfl | rfl | rfl | rfl | rfl | rfl | rfl | rfl | rfl | rfl | rfl | rfl | rfl | rfl | rfl | rfl | rfl | rfl | rfl
    · exact addm_0 hX d a b ad μ (addm_tail hZ hXZ _ d a b _ _ _ _ ad μ h hX hf)
    · exact addm_1 hX d a b ad μ (addm_tail hZ hXZ _ d a b _ _ _ _ ad μ h hX hf)
    · exact addm_2 hX d a b ad μ (addm_tail hZ hXZ _ d a b _ _ _ _ ad μ h hX hf)
    · exact addm_3 hX d a b ad μ (addm_tail hZ hXZ _ d a b _ _ _ _ ad μ h hX hf)
    · exact addm_4 hX d a b ad μ (addm_tail hZ hXZ _ d a b _ _ _ _ ad μ h hX hf)
    · exact addm_5 hX d a b ad μ (addm_tail hZ hXZ _ d a b _ _ _ _ ad μ h hX hf)
    · exact addm_6 hX d a b ad μ (addm_tail hZ hXZ _ d a b _ _ _ _ ad μ h hX hf)
    · exact addm_7 hX d a b ad μ (addm_tail hZ hXZ _ d a b _ _ _ _ ad μ h hX hf)
    · exact addm_8 hX d a b ad μ (addm_tail hZ hXZ _ d a b _ _ _ _ ad μ h hX hf)
    · exact addm_9 hX d a b ad μ (addm_tail hZ hXZ _ d a b _ _ _ _ ad μ h hX hf)
    · exact addm_10 hX d a b ad μ (addm_tail hZ hXZ _ d a b _ _ _ _ ad μ h hX hf)
    · exact addm_11 hX d a b ad μ (addm_tail hZ hXZ _ d a b _ _ _ _ ad μ h hX hf)
    · exact addm_12 hX d a b ad μ (addm_tail hZ hXZ _ d a b _ _ _ _ ad μ h hX hf)
    · exact addm_13 hX d a b ad μ (addm_tail hZ hXZ _ d a b _ _ _ _ ad μ h hX hf)
    · exact addm_14 hX d a b ad μ (addm_tail hZ hXZ _ d a b _ _ _ _ ad μ h hX hf)
    · exact addm_15 hX d a b ad μ (addm_tail hZ hXZ _ d a b _ _ _ _ ad μ h hX hf)
    · exact addm_16 hX d a b ad μ (addm_tail hZ hXZ _ d a b _ _ _ _ ad μ h hX hf)
    · exact addm_17 hX d a b ad μ (addm_tail hZ hXZ _ d a b _ _ _ _ ad μ h hX hf)
    · exact addm_18 hX d a b ad μ (addm_tail hZ hXZ _ d a b _ _ _ _ ad μ h hX hf)
