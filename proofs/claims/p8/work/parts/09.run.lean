def tb_rec : List (Nat × dp_K × dp_M) := [(0, tb_K0, tb_b0, 1, none, true),
  (1, tb_K1, tb_b1, 1, none, true),
  (2, tb_K2, tb_b2, 2, none, true),
  (3, tb_K3, tb_b3, 2, none, true),
  (4, tb_K4, tb_b4, 3, none, true),
  (5, tb_K5, tb_b5, 2, none, true),
  (6, tb_K6, tb_b6, 1, none, true),
  (7, tb_K7, tb_b7, 1, none, true),
  (8, tb_K8, tb_b8, 3, none, true),
  (9, tb_K9, tb_b9, 1, none, true),
  (10, tb_K0, tb_b10, 5, some .int, false),
  (11, tb_K1, tb_b11, 1, some .boolean, false),
  (12, tb_K1, tb_b12, 5, some .boolean, false),
  (13, tb_K1, tb_b13, 1, some .boolean, false),
  (14, tb_K1, tb_b14, 1, some .boolean, false),
  (15, tb_K0, tb_b15, 1, some .boolean, false),
  (16, tb_K1, tb_b16, 1, some .boolean, false),
  (17, tb_K1, tb_b17, 1, some .boolean, false),
  (18, tb_K1, tb_b18, 5, some .int, false),
  (19, tb_K0, tb_b19, 1, none, false),
  (20, tb_K1, tb_b20, 1, none, false),
  (21, tb_K9, tb_b21, 1, none, false),
  (22, tb_K5, tb_b22, 1, none, false),
  (23, tb_K6, tb_b23, 1, none, false),
  (25, tb_K0, tb_b25, 2, some .int, false),
  (26, tb_K1, tb_b26, 2, some .int, false),
  (27, tb_K1, tb_b27, 2, some .boolean, false),
  (28, tb_K1, tb_b28, 2, some .boolean, false),
  (29, tb_K1, tb_b29, 3, some .boolean, false),
  (30, tb_K1, tb_b30, 3, some .boolean, false),
  (31, tb_K1, tb_b31, 2, some .boolean, false),
  (32, tb_K1, tb_b32, 2, some .int, false),
  (33, tb_K1, tb_b33, 2, some .boolean, false),
  (34, tb_K1, tb_b34, 2, some .int, false),
  (35, tb_K2, tb_b35, 2, none, false),
  (36, tb_K3, tb_b36, 2, none, false),
  (38, tb_K3, tb_b38, 4, some .long, false),
  (39, tb_K1, tb_b39, 2, some .int, false),
  (40, tb_K1, tb_b40, 3, some .int, false),
  (41, tb_K1, tb_b41, 2, some .boolean, false),
  (42, tb_K3, tb_b42, 12, some .long, false),
  (43, tb_K0, tb_b43, 3, some .boolean, false),
  (44, tb_K1, tb_b44, 2, some .boolean, false),
  (45, tb_K1, tb_b45, 2, some .boolean, false),
  (46, tb_K2, tb_b46, 4, none, false),
  (47, tb_K0, tb_b47, 2, some .int, false),
  (48, tb_K2, tb_b48, 5, none, false),
  (49, tb_K2, tb_b49, 3, none, false),
  (50, tb_K0, tb_b50, 2, some .int, false),
  (51, tb_K2, tb_b51, 3, none, false),
  (52, tb_K2, tb_b52, 6, none, false),
  (53, tb_K3, tb_b53, 3, some .boolean, false),
  (54, tb_K3, tb_b54, 4, some .boolean, false),
  (55, tb_K2, tb_b55, 5, none, false),
  (56, tb_K3, tb_b56, 3, some .boolean, false),
  (57, tb_K2, tb_b57, 6, none, false),
  (58, tb_K2, tb_b58, 4, none, false),
  (59, tb_K2, tb_b59, 3, none, false),
  (60, tb_K4, tb_b60, 5, none, false),
  (61, tb_K4, tb_b61, 6, some .boolean, false),
  (62, tb_K4, tb_b62, 2, none, false),
  (63, tb_K4, tb_b63, 3, none, false),
  (64, tb_K4, tb_b64, 6, none, false),
  (65, tb_K2, tb_b65, 4, some .int, false),
  (66, tb_K4, tb_b66, 5, none, false),
  (67, tb_K0, tb_b67, 2, some .boolean, false),
  (68, tb_K4, tb_b68, 1, some .int, false),
  (69, tb_K4, tb_b69, 3, some .int, false),
  (70, tb_K4, tb_b70, 1, some .boolean, false),
  (71, tb_K2, tb_b71, 2, some .int, false),
  (72, tb_K4, tb_b72, 4, some .int, false),
  (73, tb_K2, tb_b73, 4, some .boolean, false),
  (74, tb_K2, tb_b74, 2, some .int, false),
  (75, tb_K2, tb_b75, 5, none, false),
  (76, tb_K8, tb_b76, 3, none, false),
  (77, tb_K8, tb_b77, 2, some .boolean, false),
  (78, tb_K4, tb_b78, 3, none, false),
  (79, tb_K4, tb_b79, 2, some .int, false),
  (80, tb_K0, tb_b80, 2, some .boolean, false),
  (81, tb_K7, tb_b81, 3, none, false),
  (82, tb_K0, tb_b82, 3, some .boolean, false),
  (83, tb_K7, tb_b83, 2, some .boolean, false),
  (84, tb_K7, tb_b84, 4, none, false),
  (85, tb_K7, tb_b85, 3, some .boolean, false),
  (86, tb_K0, tb_b86, 4, some .boolean, false),
  (87, tb_K7, tb_b87, 4, none, false),
  (88, tb_K0, tb_b88, 1, some .int, false),
  (89, tb_K7, tb_b89, 1, some .int, false),
  (90, tb_K7, tb_b90, 3, some .boolean, false),
  (91, tb_K7, tb_b91, 3, some .boolean, false),
  (92, tb_K7, tb_b92, 3, some .boolean, false),
  (93, tb_K7, tb_b93, 3, some .int, false),
  (94, tb_K0, tb_b94, 3, some .int, false),
  (95, tb_K2, tb_b95, 5, some .int, false),
  (96, tb_K0, tb_b96, 4, some .boolean, false),
  (97, tb_K0, tb_b97, 3, some .int, false),
  (98, tb_K9, tb_b98, 4, none, false),
  (99, tb_K9, tb_b99, 3, none, false),
  (100, tb_K9, tb_b100, 1, some .int, false),
  (101, tb_K0, tb_b101, 1, some .int, false),
  (102, tb_K9, tb_b102, 1, some .boolean, false),
  (103, tb_K9, tb_b103, 6, none, false),
  (104, tb_K9, tb_b104, 6, some .boolean, false),
  (105, tb_K9, tb_b105, 4, some .boolean, false),
  (106, tb_K0, tb_b106, 2, some .boolean, false),
  (107, tb_K9, tb_b107, 1, some .boolean, false),
  (108, tb_K9, tb_b108, 1, some .int, false),
  (109, tb_K0, tb_b109, 3, some .boolean, false),
  (110, tb_K5, tb_b110, 3, none, false),
  (111, tb_K0, tb_b111, 4, some .int, false),
  (112, tb_K9, tb_b112, 1, some .int, false),
  (113, tb_K5, tb_b113, 5, some .int, false),
  (114, tb_K5, tb_b114, 5, none, false),
  (115, tb_K5, tb_b115, 3, none, false),
  (116, tb_K5, tb_b116, 1, none, false),
  (117, tb_K5, tb_b117, 3, none, false),
  (118, tb_K5, tb_b118, 2, some .int, false),
  (119, tb_K5, tb_b119, 2, some .boolean, false),
  (120, tb_K5, tb_b120, 3, none, false),
  (121, tb_K5, tb_b121, 2, none, false),
  (122, tb_K5, tb_b122, 3, none, false),
  (123, tb_K5, tb_b123, 3, none, false),
  (124, tb_K6, tb_b124, 2, none, false),
  (125, tb_K6, tb_b125, 3, none, false),
  (126, tb_K5, tb_b126, 2, some .int, false),
  (127, tb_K5, tb_b127, 2, some .int, false),
  (128, tb_K0, tb_b128, 1, some .int, false),
  (129, tb_K5, tb_b129, 1, some .int, false),
  (130, tb_K0, tb_b130, 2, some .int, false),
  (131, tb_K6, tb_b131, 2, some .int, false),
  (132, tb_K0, tb_b132, 3, some .int, false),
  (133, tb_K6, tb_b133, 4, some .int, false),
  (134, tb_K0, tb_b134, 1, some .int, false),
  (135, tb_K0, tb_b135, 1, some .boolean, false),
  (136, tb_K8, tb_b136, 3, some .int, false),
  (137, tb_K8, tb_b137, 5, some .int, false),
  (138, tb_K7, tb_b138, 2, some .int, false),
  (139, tb_K7, tb_b139, 2, some .int, false),
  (140, tb_K0, tb_b140, 2, some .int, false),
  (141, tb_K8, tb_b141, 6, some .int, false),
  (142, tb_K11, tb_b142, 1, none, true),
  (143, tb_K11, tb_b143, 9, some .int, false),
  (144, tb_K11, tb_b144, 1, some .boolean, false),
  (145, tb_K11, tb_b145, 1, none, false),
  (146, tb_K11, tb_b146, 3, some .int, false),
  (147, tb_K11, tb_b147, 4, some .int, false),
  (148, tb_K11, tb_b148, 2, some .boolean, false),
  (149, tb_K11, tb_b149, 4, none, false),
  (150, tb_K11, tb_b150, 4, some .int, false),
  (151, tb_K11, tb_b151, 3, some .int, false),
  (152, tb_K11, tb_b152, 4, none, false),
  (153, tb_K11, tb_b153, 3, some .int, false),
  (154, tb_K11, tb_b154, 3, some .boolean, false),
  (155, tb_K11, tb_b155, 2, some .int, false),
  (156, tb_K11, tb_b156, 1, some .int, false),
  (157, tb_K11, tb_b157, 4, some .boolean, false),
  (158, tb_K11, tb_b158, 6, some .boolean, false),
  (159, tb_K11, tb_b159, 1, some .int, false),
  (160, tb_K11, tb_b160, 1, some .int, false),
  (161, tb_K11, tb_b161, 7, some .boolean, false),
  (162, tb_K11, tb_b162, 5, some .boolean, false),
  (163, tb_K11, tb_b163, 10, some .long, false),
  (164, tb_K11, tb_b164, 3, some .boolean, false),
  (165, tb_K11, tb_b165, 5, some .boolean, false),
  (166, tb_K11, tb_b166, 5, some .boolean, false),
  (167, tb_K11, tb_b167, 3, some .boolean, false),
  (168, tb_K11, tb_b168, 4, some .boolean, false),
  (169, tb_K11, tb_b169, 3, none, false),
  (170, tb_K11, tb_b170, 8, some .boolean, false),
  (171, tb_K11, tb_b171, 3, none, false),
  (172, tb_K11, tb_b172, 10, none, false),
  (173, tb_K11, tb_b173, 3, some .boolean, false),
  (174, tb_K11, tb_b174, 7, some .boolean, false),
  (175, tb_K11, tb_b175, 9, some .int, false),
  (176, tb_K11, tb_b176, 4, some .boolean, false),
  (177, tb_K11, tb_b177, 4, some .int, false),
  (178, tb_K11, tb_b178, 2, none, false),
  (179, tb_K11, tb_b179, 4, some .int, false),
  (180, tb_K11, tb_b180, 4, some .int, false),
  (181, tb_K11, tb_b181, 4, some .int, false),
  (182, tb_K11, tb_b182, 2, some .boolean, false),
  (183, tb_K11, tb_b183, 3, some .boolean, false),
  (184, tb_K11, tb_b184, 6, some .int, false),
  (185, tb_K11, tb_b185, 3, some .int, false),
  (186, tb_K11, tb_b186, 2, some .int, false),
  (187, tb_K11, tb_b187, 3, none, false),
  (188, tb_K11, tb_b188, 4, none, false),
  (189, tb_K11, tb_b189, 5, some .int, false),
  (190, tb_K11, tb_b190, 4, some .int, false),
  (191, tb_K11, tb_b191, 3, none, false),
  (192, tb_K11, tb_b192, 1, some .int, false),
  (193, tb_K11, tb_b193, 2, some .int, false),
  (194, tb_K11, tb_b194, 3, some .int, false),
  (195, tb_K11, tb_b195, 3, some .boolean, false),
  (196, tb_K11, tb_b196, 6, some .boolean, false),
  (197, tb_K11, tb_b197, 2, some .boolean, false),
  (198, tb_K11, tb_b198, 4, some .boolean, false),
  (199, tb_K11, tb_b199, 6, some .int, false),
  (200, tb_K11, tb_b200, 3, some .boolean, false),
  (201, tb_K11, tb_b201, 6, some .boolean, false),
  (202, tb_K11, tb_b202, 4, some .int, false),
  (203, tb_K11, tb_b203, 1, some .int, false),
  (204, tb_K11, tb_b204, 6, some .int, false),
  (205, tb_K11, tb_b205, 3, some .int, false)]
def tb_rok (e : Nat × dp_K × dp_M) : Prop := dp_Kok tb_cl tb_N (tb_ys e.1).cls tb_W tb_ys tb_ws e.2.1 ∧ (∀ x ∈ e.2.2.1, decode (tb_m e.1).2.1 x.1 = .ok x.2) ∧ tb_ws e.1 = Cond.code (tb_ys e.1) (tb_m e.1).2.1 e.2.2.2.1 e.2.2.2.2.1 :: tb_W ∧ plainName (tb_ys e.1).cls = true ∧ ((tb_ys e.1).name == "<init>") = e.2.2.2.2.2
theorem tb_r0 : tb_rok (0, tb_K0, tb_b0, 1, none, true) := ⟨tb_K0_ok, tb_b0_ok, rfl, by decide +kernel, by decide +kernel⟩
theorem tb_r1 : tb_rok (1, tb_K1, tb_b1, 1, none, true) := ⟨tb_K1_ok, tb_b1_ok, rfl, by decide +kernel, by decide +kernel⟩
theorem tb_r2 : tb_rok (2, tb_K2, tb_b2, 2, none, true) := ⟨tb_K2_ok, tb_b2_ok, rfl, by decide +kernel, by decide +kernel⟩
theorem tb_r3 : tb_rok (3, tb_K3, tb_b3, 2, none, true) := ⟨tb_K3_ok, tb_b3_ok, rfl, by decide +kernel, by decide +kernel⟩
theorem tb_r4 : tb_rok (4, tb_K4, tb_b4, 3, none, true) := ⟨tb_K4_ok, tb_b4_ok, rfl, by decide +kernel, by decide +kernel⟩
theorem tb_r5 : tb_rok (5, tb_K5, tb_b5, 2, none, true) := ⟨tb_K5_ok, tb_b5_ok, rfl, by decide +kernel, by decide +kernel⟩
theorem tb_r6 : tb_rok (6, tb_K6, tb_b6, 1, none, true) := ⟨tb_K6_ok, tb_b6_ok, rfl, by decide +kernel, by decide +kernel⟩
theorem tb_r7 : tb_rok (7, tb_K7, tb_b7, 1, none, true) := ⟨tb_K7_ok, tb_b7_ok, rfl, by decide +kernel, by decide +kernel⟩
theorem tb_r8 : tb_rok (8, tb_K8, tb_b8, 3, none, true) := ⟨tb_K8_ok, tb_b8_ok, rfl, by decide +kernel, by decide +kernel⟩
theorem tb_r9 : tb_rok (9, tb_K9, tb_b9, 1, none, true) := ⟨tb_K9_ok, tb_b9_ok, rfl, by decide +kernel, by decide +kernel⟩
theorem tb_r10 : tb_rok (10, tb_K0, tb_b10, 5, some .int, false) := ⟨tb_K0_ok, tb_b10_ok, rfl, by decide +kernel, by decide +kernel⟩
theorem tb_r11 : tb_rok (11, tb_K1, tb_b11, 1, some .boolean, false) := ⟨tb_K1_ok, tb_b11_ok, rfl, by decide +kernel, by decide +kernel⟩
theorem tb_r12 : tb_rok (12, tb_K1, tb_b12, 5, some .boolean, false) := ⟨tb_K1_ok, tb_b12_ok, rfl, by decide +kernel, by decide +kernel⟩
theorem tb_r13 : tb_rok (13, tb_K1, tb_b13, 1, some .boolean, false) := ⟨tb_K1_ok, tb_b13_ok, rfl, by decide +kernel, by decide +kernel⟩
theorem tb_r14 : tb_rok (14, tb_K1, tb_b14, 1, some .boolean, false) := ⟨tb_K1_ok, tb_b14_ok, rfl, by decide +kernel, by decide +kernel⟩
theorem tb_r15 : tb_rok (15, tb_K0, tb_b15, 1, some .boolean, false) := ⟨tb_K0_ok, tb_b15_ok, rfl, by decide +kernel, by decide +kernel⟩
theorem tb_r16 : tb_rok (16, tb_K1, tb_b16, 1, some .boolean, false) := ⟨tb_K1_ok, tb_b16_ok, rfl, by decide +kernel, by decide +kernel⟩
theorem tb_r17 : tb_rok (17, tb_K1, tb_b17, 1, some .boolean, false) := ⟨tb_K1_ok, tb_b17_ok, rfl, by decide +kernel, by decide +kernel⟩
theorem tb_r18 : tb_rok (18, tb_K1, tb_b18, 5, some .int, false) := ⟨tb_K1_ok, tb_b18_ok, rfl, by decide +kernel, by decide +kernel⟩
theorem tb_r19 : tb_rok (19, tb_K0, tb_b19, 1, none, false) := ⟨tb_K0_ok, tb_b19_ok, rfl, by decide +kernel, by decide +kernel⟩
theorem tb_r20 : tb_rok (20, tb_K1, tb_b20, 1, none, false) := ⟨tb_K1_ok, tb_b20_ok, rfl, by decide +kernel, by decide +kernel⟩
theorem tb_r21 : tb_rok (21, tb_K9, tb_b21, 1, none, false) := ⟨tb_K9_ok, tb_b21_ok, rfl, by decide +kernel, by decide +kernel⟩
theorem tb_r22 : tb_rok (22, tb_K5, tb_b22, 1, none, false) := ⟨tb_K5_ok, tb_b22_ok, rfl, by decide +kernel, by decide +kernel⟩
theorem tb_r23 : tb_rok (23, tb_K6, tb_b23, 1, none, false) := ⟨tb_K6_ok, tb_b23_ok, rfl, by decide +kernel, by decide +kernel⟩
theorem tb_r25 : tb_rok (25, tb_K0, tb_b25, 2, some .int, false) := ⟨tb_K0_ok, tb_b25_ok, rfl, by decide +kernel, by decide +kernel⟩
theorem tb_r26 : tb_rok (26, tb_K1, tb_b26, 2, some .int, false) := ⟨tb_K1_ok, tb_b26_ok, rfl, by decide +kernel, by decide +kernel⟩
theorem tb_r27 : tb_rok (27, tb_K1, tb_b27, 2, some .boolean, false) := ⟨tb_K1_ok, tb_b27_ok, rfl, by decide +kernel, by decide +kernel⟩
theorem tb_r28 : tb_rok (28, tb_K1, tb_b28, 2, some .boolean, false) := ⟨tb_K1_ok, tb_b28_ok, rfl, by decide +kernel, by decide +kernel⟩
theorem tb_r29 : tb_rok (29, tb_K1, tb_b29, 3, some .boolean, false) := ⟨tb_K1_ok, tb_b29_ok, rfl, by decide +kernel, by decide +kernel⟩
theorem tb_r30 : tb_rok (30, tb_K1, tb_b30, 3, some .boolean, false) := ⟨tb_K1_ok, tb_b30_ok, rfl, by decide +kernel, by decide +kernel⟩
theorem tb_r31 : tb_rok (31, tb_K1, tb_b31, 2, some .boolean, false) := ⟨tb_K1_ok, tb_b31_ok, rfl, by decide +kernel, by decide +kernel⟩
theorem tb_r32 : tb_rok (32, tb_K1, tb_b32, 2, some .int, false) := ⟨tb_K1_ok, tb_b32_ok, rfl, by decide +kernel, by decide +kernel⟩
theorem tb_r33 : tb_rok (33, tb_K1, tb_b33, 2, some .boolean, false) := ⟨tb_K1_ok, tb_b33_ok, rfl, by decide +kernel, by decide +kernel⟩
theorem tb_r34 : tb_rok (34, tb_K1, tb_b34, 2, some .int, false) := ⟨tb_K1_ok, tb_b34_ok, rfl, by decide +kernel, by decide +kernel⟩
theorem tb_r35 : tb_rok (35, tb_K2, tb_b35, 2, none, false) := ⟨tb_K2_ok, tb_b35_ok, rfl, by decide +kernel, by decide +kernel⟩
theorem tb_r36 : tb_rok (36, tb_K3, tb_b36, 2, none, false) := ⟨tb_K3_ok, tb_b36_ok, rfl, by decide +kernel, by decide +kernel⟩
theorem tb_r38 : tb_rok (38, tb_K3, tb_b38, 4, some .long, false) := ⟨tb_K3_ok, tb_b38_ok, rfl, by decide +kernel, by decide +kernel⟩
theorem tb_r39 : tb_rok (39, tb_K1, tb_b39, 2, some .int, false) := ⟨tb_K1_ok, tb_b39_ok, rfl, by decide +kernel, by decide +kernel⟩
theorem tb_r40 : tb_rok (40, tb_K1, tb_b40, 3, some .int, false) := ⟨tb_K1_ok, tb_b40_ok, rfl, by decide +kernel, by decide +kernel⟩
theorem tb_r41 : tb_rok (41, tb_K1, tb_b41, 2, some .boolean, false) := ⟨tb_K1_ok, tb_b41_ok, rfl, by decide +kernel, by decide +kernel⟩
theorem tb_r42 : tb_rok (42, tb_K3, tb_b42, 12, some .long, false) := ⟨tb_K3_ok, tb_b42_ok, rfl, by decide +kernel, by decide +kernel⟩
theorem tb_r43 : tb_rok (43, tb_K0, tb_b43, 3, some .boolean, false) := ⟨tb_K0_ok, tb_b43_ok, rfl, by decide +kernel, by decide +kernel⟩
theorem tb_r44 : tb_rok (44, tb_K1, tb_b44, 2, some .boolean, false) := ⟨tb_K1_ok, tb_b44_ok, rfl, by decide +kernel, by decide +kernel⟩
theorem tb_r45 : tb_rok (45, tb_K1, tb_b45, 2, some .boolean, false) := ⟨tb_K1_ok, tb_b45_ok, rfl, by decide +kernel, by decide +kernel⟩
theorem tb_r46 : tb_rok (46, tb_K2, tb_b46, 4, none, false) := ⟨tb_K2_ok, tb_b46_ok, rfl, by decide +kernel, by decide +kernel⟩
theorem tb_r47 : tb_rok (47, tb_K0, tb_b47, 2, some .int, false) := ⟨tb_K0_ok, tb_b47_ok, rfl, by decide +kernel, by decide +kernel⟩
theorem tb_r48 : tb_rok (48, tb_K2, tb_b48, 5, none, false) := ⟨tb_K2_ok, tb_b48_ok, rfl, by decide +kernel, by decide +kernel⟩
theorem tb_r49 : tb_rok (49, tb_K2, tb_b49, 3, none, false) := ⟨tb_K2_ok, tb_b49_ok, rfl, by decide +kernel, by decide +kernel⟩
theorem tb_r50 : tb_rok (50, tb_K0, tb_b50, 2, some .int, false) := ⟨tb_K0_ok, tb_b50_ok, rfl, by decide +kernel, by decide +kernel⟩
theorem tb_r51 : tb_rok (51, tb_K2, tb_b51, 3, none, false) := ⟨tb_K2_ok, tb_b51_ok, rfl, by decide +kernel, by decide +kernel⟩
theorem tb_r52 : tb_rok (52, tb_K2, tb_b52, 6, none, false) := ⟨tb_K2_ok, tb_b52_ok, rfl, by decide +kernel, by decide +kernel⟩
theorem tb_r53 : tb_rok (53, tb_K3, tb_b53, 3, some .boolean, false) := ⟨tb_K3_ok, tb_b53_ok, rfl, by decide +kernel, by decide +kernel⟩
theorem tb_r54 : tb_rok (54, tb_K3, tb_b54, 4, some .boolean, false) := ⟨tb_K3_ok, tb_b54_ok, rfl, by decide +kernel, by decide +kernel⟩
theorem tb_r55 : tb_rok (55, tb_K2, tb_b55, 5, none, false) := ⟨tb_K2_ok, tb_b55_ok, rfl, by decide +kernel, by decide +kernel⟩
theorem tb_r56 : tb_rok (56, tb_K3, tb_b56, 3, some .boolean, false) := ⟨tb_K3_ok, tb_b56_ok, rfl, by decide +kernel, by decide +kernel⟩
theorem tb_r57 : tb_rok (57, tb_K2, tb_b57, 6, none, false) := ⟨tb_K2_ok, tb_b57_ok, rfl, by decide +kernel, by decide +kernel⟩
theorem tb_r58 : tb_rok (58, tb_K2, tb_b58, 4, none, false) := ⟨tb_K2_ok, tb_b58_ok, rfl, by decide +kernel, by decide +kernel⟩
theorem tb_r59 : tb_rok (59, tb_K2, tb_b59, 3, none, false) := ⟨tb_K2_ok, tb_b59_ok, rfl, by decide +kernel, by decide +kernel⟩
theorem tb_r60 : tb_rok (60, tb_K4, tb_b60, 5, none, false) := ⟨tb_K4_ok, tb_b60_ok, rfl, by decide +kernel, by decide +kernel⟩
theorem tb_r61 : tb_rok (61, tb_K4, tb_b61, 6, some .boolean, false) := ⟨tb_K4_ok, tb_b61_ok, rfl, by decide +kernel, by decide +kernel⟩
theorem tb_r62 : tb_rok (62, tb_K4, tb_b62, 2, none, false) := ⟨tb_K4_ok, tb_b62_ok, rfl, by decide +kernel, by decide +kernel⟩
theorem tb_r63 : tb_rok (63, tb_K4, tb_b63, 3, none, false) := ⟨tb_K4_ok, tb_b63_ok, rfl, by decide +kernel, by decide +kernel⟩
theorem tb_r64 : tb_rok (64, tb_K4, tb_b64, 6, none, false) := ⟨tb_K4_ok, tb_b64_ok, rfl, by decide +kernel, by decide +kernel⟩
theorem tb_r65 : tb_rok (65, tb_K2, tb_b65, 4, some .int, false) := ⟨tb_K2_ok, tb_b65_ok, rfl, by decide +kernel, by decide +kernel⟩
theorem tb_r66 : tb_rok (66, tb_K4, tb_b66, 5, none, false) := ⟨tb_K4_ok, tb_b66_ok, rfl, by decide +kernel, by decide +kernel⟩
theorem tb_r67 : tb_rok (67, tb_K0, tb_b67, 2, some .boolean, false) := ⟨tb_K0_ok, tb_b67_ok, rfl, by decide +kernel, by decide +kernel⟩
theorem tb_r68 : tb_rok (68, tb_K4, tb_b68, 1, some .int, false) := ⟨tb_K4_ok, tb_b68_ok, rfl, by decide +kernel, by decide +kernel⟩
theorem tb_r69 : tb_rok (69, tb_K4, tb_b69, 3, some .int, false) := ⟨tb_K4_ok, tb_b69_ok, rfl, by decide +kernel, by decide +kernel⟩
theorem tb_r70 : tb_rok (70, tb_K4, tb_b70, 1, some .boolean, false) := ⟨tb_K4_ok, tb_b70_ok, rfl, by decide +kernel, by decide +kernel⟩
theorem tb_r71 : tb_rok (71, tb_K2, tb_b71, 2, some .int, false) := ⟨tb_K2_ok, tb_b71_ok, rfl, by decide +kernel, by decide +kernel⟩
theorem tb_r72 : tb_rok (72, tb_K4, tb_b72, 4, some .int, false) := ⟨tb_K4_ok, tb_b72_ok, rfl, by decide +kernel, by decide +kernel⟩
theorem tb_r73 : tb_rok (73, tb_K2, tb_b73, 4, some .boolean, false) := ⟨tb_K2_ok, tb_b73_ok, rfl, by decide +kernel, by decide +kernel⟩
theorem tb_r74 : tb_rok (74, tb_K2, tb_b74, 2, some .int, false) := ⟨tb_K2_ok, tb_b74_ok, rfl, by decide +kernel, by decide +kernel⟩
theorem tb_r75 : tb_rok (75, tb_K2, tb_b75, 5, none, false) := ⟨tb_K2_ok, tb_b75_ok, rfl, by decide +kernel, by decide +kernel⟩
theorem tb_r76 : tb_rok (76, tb_K8, tb_b76, 3, none, false) := ⟨tb_K8_ok, tb_b76_ok, rfl, by decide +kernel, by decide +kernel⟩
theorem tb_r77 : tb_rok (77, tb_K8, tb_b77, 2, some .boolean, false) := ⟨tb_K8_ok, tb_b77_ok, rfl, by decide +kernel, by decide +kernel⟩
theorem tb_r78 : tb_rok (78, tb_K4, tb_b78, 3, none, false) := ⟨tb_K4_ok, tb_b78_ok, rfl, by decide +kernel, by decide +kernel⟩
theorem tb_r79 : tb_rok (79, tb_K4, tb_b79, 2, some .int, false) := ⟨tb_K4_ok, tb_b79_ok, rfl, by decide +kernel, by decide +kernel⟩
theorem tb_r80 : tb_rok (80, tb_K0, tb_b80, 2, some .boolean, false) := ⟨tb_K0_ok, tb_b80_ok, rfl, by decide +kernel, by decide +kernel⟩
theorem tb_r81 : tb_rok (81, tb_K7, tb_b81, 3, none, false) := ⟨tb_K7_ok, tb_b81_ok, rfl, by decide +kernel, by decide +kernel⟩
theorem tb_r82 : tb_rok (82, tb_K0, tb_b82, 3, some .boolean, false) := ⟨tb_K0_ok, tb_b82_ok, rfl, by decide +kernel, by decide +kernel⟩
theorem tb_r83 : tb_rok (83, tb_K7, tb_b83, 2, some .boolean, false) := ⟨tb_K7_ok, tb_b83_ok, rfl, by decide +kernel, by decide +kernel⟩
theorem tb_r84 : tb_rok (84, tb_K7, tb_b84, 4, none, false) := ⟨tb_K7_ok, tb_b84_ok, rfl, by decide +kernel, by decide +kernel⟩
theorem tb_r85 : tb_rok (85, tb_K7, tb_b85, 3, some .boolean, false) := ⟨tb_K7_ok, tb_b85_ok, rfl, by decide +kernel, by decide +kernel⟩
theorem tb_r86 : tb_rok (86, tb_K0, tb_b86, 4, some .boolean, false) := ⟨tb_K0_ok, tb_b86_ok, rfl, by decide +kernel, by decide +kernel⟩
theorem tb_r87 : tb_rok (87, tb_K7, tb_b87, 4, none, false) := ⟨tb_K7_ok, tb_b87_ok, rfl, by decide +kernel, by decide +kernel⟩
theorem tb_r88 : tb_rok (88, tb_K0, tb_b88, 1, some .int, false) := ⟨tb_K0_ok, tb_b88_ok, rfl, by decide +kernel, by decide +kernel⟩
theorem tb_r89 : tb_rok (89, tb_K7, tb_b89, 1, some .int, false) := ⟨tb_K7_ok, tb_b89_ok, rfl, by decide +kernel, by decide +kernel⟩
theorem tb_r90 : tb_rok (90, tb_K7, tb_b90, 3, some .boolean, false) := ⟨tb_K7_ok, tb_b90_ok, rfl, by decide +kernel, by decide +kernel⟩
theorem tb_r91 : tb_rok (91, tb_K7, tb_b91, 3, some .boolean, false) := ⟨tb_K7_ok, tb_b91_ok, rfl, by decide +kernel, by decide +kernel⟩
theorem tb_r92 : tb_rok (92, tb_K7, tb_b92, 3, some .boolean, false) := ⟨tb_K7_ok, tb_b92_ok, rfl, by decide +kernel, by decide +kernel⟩
theorem tb_r93 : tb_rok (93, tb_K7, tb_b93, 3, some .int, false) := ⟨tb_K7_ok, tb_b93_ok, rfl, by decide +kernel, by decide +kernel⟩
theorem tb_r94 : tb_rok (94, tb_K0, tb_b94, 3, some .int, false) := ⟨tb_K0_ok, tb_b94_ok, rfl, by decide +kernel, by decide +kernel⟩
theorem tb_r95 : tb_rok (95, tb_K2, tb_b95, 5, some .int, false) := ⟨tb_K2_ok, tb_b95_ok, rfl, by decide +kernel, by decide +kernel⟩
theorem tb_r96 : tb_rok (96, tb_K0, tb_b96, 4, some .boolean, false) := ⟨tb_K0_ok, tb_b96_ok, rfl, by decide +kernel, by decide +kernel⟩
theorem tb_r97 : tb_rok (97, tb_K0, tb_b97, 3, some .int, false) := ⟨tb_K0_ok, tb_b97_ok, rfl, by decide +kernel, by decide +kernel⟩
theorem tb_r98 : tb_rok (98, tb_K9, tb_b98, 4, none, false) := ⟨tb_K9_ok, tb_b98_ok, rfl, by decide +kernel, by decide +kernel⟩
theorem tb_r99 : tb_rok (99, tb_K9, tb_b99, 3, none, false) := ⟨tb_K9_ok, tb_b99_ok, rfl, by decide +kernel, by decide +kernel⟩
theorem tb_r100 : tb_rok (100, tb_K9, tb_b100, 1, some .int, false) := ⟨tb_K9_ok, tb_b100_ok, rfl, by decide +kernel, by decide +kernel⟩
theorem tb_r101 : tb_rok (101, tb_K0, tb_b101, 1, some .int, false) := ⟨tb_K0_ok, tb_b101_ok, rfl, by decide +kernel, by decide +kernel⟩
theorem tb_r102 : tb_rok (102, tb_K9, tb_b102, 1, some .boolean, false) := ⟨tb_K9_ok, tb_b102_ok, rfl, by decide +kernel, by decide +kernel⟩
theorem tb_r103 : tb_rok (103, tb_K9, tb_b103, 6, none, false) := ⟨tb_K9_ok, tb_b103_ok, rfl, by decide +kernel, by decide +kernel⟩
theorem tb_r104 : tb_rok (104, tb_K9, tb_b104, 6, some .boolean, false) := ⟨tb_K9_ok, tb_b104_ok, rfl, by decide +kernel, by decide +kernel⟩
theorem tb_r105 : tb_rok (105, tb_K9, tb_b105, 4, some .boolean, false) := ⟨tb_K9_ok, tb_b105_ok, rfl, by decide +kernel, by decide +kernel⟩
theorem tb_r106 : tb_rok (106, tb_K0, tb_b106, 2, some .boolean, false) := ⟨tb_K0_ok, tb_b106_ok, rfl, by decide +kernel, by decide +kernel⟩
theorem tb_r107 : tb_rok (107, tb_K9, tb_b107, 1, some .boolean, false) := ⟨tb_K9_ok, tb_b107_ok, rfl, by decide +kernel, by decide +kernel⟩
theorem tb_r108 : tb_rok (108, tb_K9, tb_b108, 1, some .int, false) := ⟨tb_K9_ok, tb_b108_ok, rfl, by decide +kernel, by decide +kernel⟩
theorem tb_r109 : tb_rok (109, tb_K0, tb_b109, 3, some .boolean, false) := ⟨tb_K0_ok, tb_b109_ok, rfl, by decide +kernel, by decide +kernel⟩
theorem tb_r110 : tb_rok (110, tb_K5, tb_b110, 3, none, false) := ⟨tb_K5_ok, tb_b110_ok, rfl, by decide +kernel, by decide +kernel⟩
theorem tb_r111 : tb_rok (111, tb_K0, tb_b111, 4, some .int, false) := ⟨tb_K0_ok, tb_b111_ok, rfl, by decide +kernel, by decide +kernel⟩
theorem tb_r112 : tb_rok (112, tb_K9, tb_b112, 1, some .int, false) := ⟨tb_K9_ok, tb_b112_ok, rfl, by decide +kernel, by decide +kernel⟩
theorem tb_r113 : tb_rok (113, tb_K5, tb_b113, 5, some .int, false) := ⟨tb_K5_ok, tb_b113_ok, rfl, by decide +kernel, by decide +kernel⟩
theorem tb_r114 : tb_rok (114, tb_K5, tb_b114, 5, none, false) := ⟨tb_K5_ok, tb_b114_ok, rfl, by decide +kernel, by decide +kernel⟩
theorem tb_r115 : tb_rok (115, tb_K5, tb_b115, 3, none, false) := ⟨tb_K5_ok, tb_b115_ok, rfl, by decide +kernel, by decide +kernel⟩
theorem tb_r116 : tb_rok (116, tb_K5, tb_b116, 1, none, false) := ⟨tb_K5_ok, tb_b116_ok, rfl, by decide +kernel, by decide +kernel⟩
theorem tb_r117 : tb_rok (117, tb_K5, tb_b117, 3, none, false) := ⟨tb_K5_ok, tb_b117_ok, rfl, by decide +kernel, by decide +kernel⟩
theorem tb_r118 : tb_rok (118, tb_K5, tb_b118, 2, some .int, false) := ⟨tb_K5_ok, tb_b118_ok, rfl, by decide +kernel, by decide +kernel⟩
theorem tb_r119 : tb_rok (119, tb_K5, tb_b119, 2, some .boolean, false) := ⟨tb_K5_ok, tb_b119_ok, rfl, by decide +kernel, by decide +kernel⟩
theorem tb_r120 : tb_rok (120, tb_K5, tb_b120, 3, none, false) := ⟨tb_K5_ok, tb_b120_ok, rfl, by decide +kernel, by decide +kernel⟩
theorem tb_r121 : tb_rok (121, tb_K5, tb_b121, 2, none, false) := ⟨tb_K5_ok, tb_b121_ok, rfl, by decide +kernel, by decide +kernel⟩
theorem tb_r122 : tb_rok (122, tb_K5, tb_b122, 3, none, false) := ⟨tb_K5_ok, tb_b122_ok, rfl, by decide +kernel, by decide +kernel⟩
theorem tb_r123 : tb_rok (123, tb_K5, tb_b123, 3, none, false) := ⟨tb_K5_ok, tb_b123_ok, rfl, by decide +kernel, by decide +kernel⟩
theorem tb_r124 : tb_rok (124, tb_K6, tb_b124, 2, none, false) := ⟨tb_K6_ok, tb_b124_ok, rfl, by decide +kernel, by decide +kernel⟩
theorem tb_r125 : tb_rok (125, tb_K6, tb_b125, 3, none, false) := ⟨tb_K6_ok, tb_b125_ok, rfl, by decide +kernel, by decide +kernel⟩
theorem tb_r126 : tb_rok (126, tb_K5, tb_b126, 2, some .int, false) := ⟨tb_K5_ok, tb_b126_ok, rfl, by decide +kernel, by decide +kernel⟩
theorem tb_r127 : tb_rok (127, tb_K5, tb_b127, 2, some .int, false) := ⟨tb_K5_ok, tb_b127_ok, rfl, by decide +kernel, by decide +kernel⟩
theorem tb_r128 : tb_rok (128, tb_K0, tb_b128, 1, some .int, false) := ⟨tb_K0_ok, tb_b128_ok, rfl, by decide +kernel, by decide +kernel⟩
theorem tb_r129 : tb_rok (129, tb_K5, tb_b129, 1, some .int, false) := ⟨tb_K5_ok, tb_b129_ok, rfl, by decide +kernel, by decide +kernel⟩
theorem tb_r130 : tb_rok (130, tb_K0, tb_b130, 2, some .int, false) := ⟨tb_K0_ok, tb_b130_ok, rfl, by decide +kernel, by decide +kernel⟩
theorem tb_r131 : tb_rok (131, tb_K6, tb_b131, 2, some .int, false) := ⟨tb_K6_ok, tb_b131_ok, rfl, by decide +kernel, by decide +kernel⟩
theorem tb_r132 : tb_rok (132, tb_K0, tb_b132, 3, some .int, false) := ⟨tb_K0_ok, tb_b132_ok, rfl, by decide +kernel, by decide +kernel⟩
theorem tb_r133 : tb_rok (133, tb_K6, tb_b133, 4, some .int, false) := ⟨tb_K6_ok, tb_b133_ok, rfl, by decide +kernel, by decide +kernel⟩
theorem tb_r134 : tb_rok (134, tb_K0, tb_b134, 1, some .int, false) := ⟨tb_K0_ok, tb_b134_ok, rfl, by decide +kernel, by decide +kernel⟩
theorem tb_r135 : tb_rok (135, tb_K0, tb_b135, 1, some .boolean, false) := ⟨tb_K0_ok, tb_b135_ok, rfl, by decide +kernel, by decide +kernel⟩
theorem tb_r136 : tb_rok (136, tb_K8, tb_b136, 3, some .int, false) := ⟨tb_K8_ok, tb_b136_ok, rfl, by decide +kernel, by decide +kernel⟩
theorem tb_r137 : tb_rok (137, tb_K8, tb_b137, 5, some .int, false) := ⟨tb_K8_ok, tb_b137_ok, rfl, by decide +kernel, by decide +kernel⟩
theorem tb_r138 : tb_rok (138, tb_K7, tb_b138, 2, some .int, false) := ⟨tb_K7_ok, tb_b138_ok, rfl, by decide +kernel, by decide +kernel⟩
theorem tb_r139 : tb_rok (139, tb_K7, tb_b139, 2, some .int, false) := ⟨tb_K7_ok, tb_b139_ok, rfl, by decide +kernel, by decide +kernel⟩
theorem tb_r140 : tb_rok (140, tb_K0, tb_b140, 2, some .int, false) := ⟨tb_K0_ok, tb_b140_ok, rfl, by decide +kernel, by decide +kernel⟩
theorem tb_r141 : tb_rok (141, tb_K8, tb_b141, 6, some .int, false) := ⟨tb_K8_ok, tb_b141_ok, rfl, by decide +kernel, by decide +kernel⟩
theorem tb_r142 : tb_rok (142, tb_K11, tb_b142, 1, none, true) := ⟨tb_K11_ok, tb_b142_ok, rfl, by decide +kernel, by decide +kernel⟩
theorem tb_r143 : tb_rok (143, tb_K11, tb_b143, 9, some .int, false) := ⟨tb_K11_ok, tb_b143_ok, rfl, by decide +kernel, by decide +kernel⟩
theorem tb_r144 : tb_rok (144, tb_K11, tb_b144, 1, some .boolean, false) := ⟨tb_K11_ok, tb_b144_ok, rfl, by decide +kernel, by decide +kernel⟩
theorem tb_r145 : tb_rok (145, tb_K11, tb_b145, 1, none, false) := ⟨tb_K11_ok, tb_b145_ok, rfl, by decide +kernel, by decide +kernel⟩
theorem tb_r146 : tb_rok (146, tb_K11, tb_b146, 3, some .int, false) := ⟨tb_K11_ok, tb_b146_ok, rfl, by decide +kernel, by decide +kernel⟩
theorem tb_r147 : tb_rok (147, tb_K11, tb_b147, 4, some .int, false) := ⟨tb_K11_ok, tb_b147_ok, rfl, by decide +kernel, by decide +kernel⟩
theorem tb_r148 : tb_rok (148, tb_K11, tb_b148, 2, some .boolean, false) := ⟨tb_K11_ok, tb_b148_ok, rfl, by decide +kernel, by decide +kernel⟩
theorem tb_r149 : tb_rok (149, tb_K11, tb_b149, 4, none, false) := ⟨tb_K11_ok, tb_b149_ok, rfl, by decide +kernel, by decide +kernel⟩
theorem tb_r150 : tb_rok (150, tb_K11, tb_b150, 4, some .int, false) := ⟨tb_K11_ok, tb_b150_ok, rfl, by decide +kernel, by decide +kernel⟩
theorem tb_r151 : tb_rok (151, tb_K11, tb_b151, 3, some .int, false) := ⟨tb_K11_ok, tb_b151_ok, rfl, by decide +kernel, by decide +kernel⟩
theorem tb_r152 : tb_rok (152, tb_K11, tb_b152, 4, none, false) := ⟨tb_K11_ok, tb_b152_ok, rfl, by decide +kernel, by decide +kernel⟩
theorem tb_r153 : tb_rok (153, tb_K11, tb_b153, 3, some .int, false) := ⟨tb_K11_ok, tb_b153_ok, rfl, by decide +kernel, by decide +kernel⟩
theorem tb_r154 : tb_rok (154, tb_K11, tb_b154, 3, some .boolean, false) := ⟨tb_K11_ok, tb_b154_ok, rfl, by decide +kernel, by decide +kernel⟩
theorem tb_r155 : tb_rok (155, tb_K11, tb_b155, 2, some .int, false) := ⟨tb_K11_ok, tb_b155_ok, rfl, by decide +kernel, by decide +kernel⟩
theorem tb_r156 : tb_rok (156, tb_K11, tb_b156, 1, some .int, false) := ⟨tb_K11_ok, tb_b156_ok, rfl, by decide +kernel, by decide +kernel⟩
theorem tb_r157 : tb_rok (157, tb_K11, tb_b157, 4, some .boolean, false) := ⟨tb_K11_ok, tb_b157_ok, rfl, by decide +kernel, by decide +kernel⟩
theorem tb_r158 : tb_rok (158, tb_K11, tb_b158, 6, some .boolean, false) := ⟨tb_K11_ok, tb_b158_ok, rfl, by decide +kernel, by decide +kernel⟩
theorem tb_r159 : tb_rok (159, tb_K11, tb_b159, 1, some .int, false) := ⟨tb_K11_ok, tb_b159_ok, rfl, by decide +kernel, by decide +kernel⟩
theorem tb_r160 : tb_rok (160, tb_K11, tb_b160, 1, some .int, false) := ⟨tb_K11_ok, tb_b160_ok, rfl, by decide +kernel, by decide +kernel⟩
theorem tb_r161 : tb_rok (161, tb_K11, tb_b161, 7, some .boolean, false) := ⟨tb_K11_ok, tb_b161_ok, rfl, by decide +kernel, by decide +kernel⟩
theorem tb_r162 : tb_rok (162, tb_K11, tb_b162, 5, some .boolean, false) := ⟨tb_K11_ok, tb_b162_ok, rfl, by decide +kernel, by decide +kernel⟩
theorem tb_r163 : tb_rok (163, tb_K11, tb_b163, 10, some .long, false) := ⟨tb_K11_ok, tb_b163_ok, rfl, by decide +kernel, by decide +kernel⟩
theorem tb_r164 : tb_rok (164, tb_K11, tb_b164, 3, some .boolean, false) := ⟨tb_K11_ok, tb_b164_ok, rfl, by decide +kernel, by decide +kernel⟩
theorem tb_r165 : tb_rok (165, tb_K11, tb_b165, 5, some .boolean, false) := ⟨tb_K11_ok, tb_b165_ok, rfl, by decide +kernel, by decide +kernel⟩
theorem tb_r166 : tb_rok (166, tb_K11, tb_b166, 5, some .boolean, false) := ⟨tb_K11_ok, tb_b166_ok, rfl, by decide +kernel, by decide +kernel⟩
theorem tb_r167 : tb_rok (167, tb_K11, tb_b167, 3, some .boolean, false) := ⟨tb_K11_ok, tb_b167_ok, rfl, by decide +kernel, by decide +kernel⟩
theorem tb_r168 : tb_rok (168, tb_K11, tb_b168, 4, some .boolean, false) := ⟨tb_K11_ok, tb_b168_ok, rfl, by decide +kernel, by decide +kernel⟩
theorem tb_r169 : tb_rok (169, tb_K11, tb_b169, 3, none, false) := ⟨tb_K11_ok, tb_b169_ok, rfl, by decide +kernel, by decide +kernel⟩
theorem tb_r170 : tb_rok (170, tb_K11, tb_b170, 8, some .boolean, false) := ⟨tb_K11_ok, tb_b170_ok, rfl, by decide +kernel, by decide +kernel⟩
theorem tb_r171 : tb_rok (171, tb_K11, tb_b171, 3, none, false) := ⟨tb_K11_ok, tb_b171_ok, rfl, by decide +kernel, by decide +kernel⟩
theorem tb_r172 : tb_rok (172, tb_K11, tb_b172, 10, none, false) := ⟨tb_K11_ok, tb_b172_ok, rfl, by decide +kernel, by decide +kernel⟩
theorem tb_r173 : tb_rok (173, tb_K11, tb_b173, 3, some .boolean, false) := ⟨tb_K11_ok, tb_b173_ok, rfl, by decide +kernel, by decide +kernel⟩
theorem tb_r174 : tb_rok (174, tb_K11, tb_b174, 7, some .boolean, false) := ⟨tb_K11_ok, tb_b174_ok, rfl, by decide +kernel, by decide +kernel⟩
theorem tb_r175 : tb_rok (175, tb_K11, tb_b175, 9, some .int, false) := ⟨tb_K11_ok, tb_b175_ok, rfl, by decide +kernel, by decide +kernel⟩
theorem tb_r176 : tb_rok (176, tb_K11, tb_b176, 4, some .boolean, false) := ⟨tb_K11_ok, tb_b176_ok, rfl, by decide +kernel, by decide +kernel⟩
theorem tb_r177 : tb_rok (177, tb_K11, tb_b177, 4, some .int, false) := ⟨tb_K11_ok, tb_b177_ok, rfl, by decide +kernel, by decide +kernel⟩
theorem tb_r178 : tb_rok (178, tb_K11, tb_b178, 2, none, false) := ⟨tb_K11_ok, tb_b178_ok, rfl, by decide +kernel, by decide +kernel⟩
theorem tb_r179 : tb_rok (179, tb_K11, tb_b179, 4, some .int, false) := ⟨tb_K11_ok, tb_b179_ok, rfl, by decide +kernel, by decide +kernel⟩
theorem tb_r180 : tb_rok (180, tb_K11, tb_b180, 4, some .int, false) := ⟨tb_K11_ok, tb_b180_ok, rfl, by decide +kernel, by decide +kernel⟩
theorem tb_r181 : tb_rok (181, tb_K11, tb_b181, 4, some .int, false) := ⟨tb_K11_ok, tb_b181_ok, rfl, by decide +kernel, by decide +kernel⟩
theorem tb_r182 : tb_rok (182, tb_K11, tb_b182, 2, some .boolean, false) := ⟨tb_K11_ok, tb_b182_ok, rfl, by decide +kernel, by decide +kernel⟩
theorem tb_r183 : tb_rok (183, tb_K11, tb_b183, 3, some .boolean, false) := ⟨tb_K11_ok, tb_b183_ok, rfl, by decide +kernel, by decide +kernel⟩
theorem tb_r184 : tb_rok (184, tb_K11, tb_b184, 6, some .int, false) := ⟨tb_K11_ok, tb_b184_ok, rfl, by decide +kernel, by decide +kernel⟩
theorem tb_r185 : tb_rok (185, tb_K11, tb_b185, 3, some .int, false) := ⟨tb_K11_ok, tb_b185_ok, rfl, by decide +kernel, by decide +kernel⟩
theorem tb_r186 : tb_rok (186, tb_K11, tb_b186, 2, some .int, false) := ⟨tb_K11_ok, tb_b186_ok, rfl, by decide +kernel, by decide +kernel⟩
theorem tb_r187 : tb_rok (187, tb_K11, tb_b187, 3, none, false) := ⟨tb_K11_ok, tb_b187_ok, rfl, by decide +kernel, by decide +kernel⟩
theorem tb_r188 : tb_rok (188, tb_K11, tb_b188, 4, none, false) := ⟨tb_K11_ok, tb_b188_ok, rfl, by decide +kernel, by decide +kernel⟩
theorem tb_r189 : tb_rok (189, tb_K11, tb_b189, 5, some .int, false) := ⟨tb_K11_ok, tb_b189_ok, rfl, by decide +kernel, by decide +kernel⟩
theorem tb_r190 : tb_rok (190, tb_K11, tb_b190, 4, some .int, false) := ⟨tb_K11_ok, tb_b190_ok, rfl, by decide +kernel, by decide +kernel⟩
theorem tb_r191 : tb_rok (191, tb_K11, tb_b191, 3, none, false) := ⟨tb_K11_ok, tb_b191_ok, rfl, by decide +kernel, by decide +kernel⟩
theorem tb_r192 : tb_rok (192, tb_K11, tb_b192, 1, some .int, false) := ⟨tb_K11_ok, tb_b192_ok, rfl, by decide +kernel, by decide +kernel⟩
theorem tb_r193 : tb_rok (193, tb_K11, tb_b193, 2, some .int, false) := ⟨tb_K11_ok, tb_b193_ok, rfl, by decide +kernel, by decide +kernel⟩
theorem tb_r194 : tb_rok (194, tb_K11, tb_b194, 3, some .int, false) := ⟨tb_K11_ok, tb_b194_ok, rfl, by decide +kernel, by decide +kernel⟩
theorem tb_r195 : tb_rok (195, tb_K11, tb_b195, 3, some .boolean, false) := ⟨tb_K11_ok, tb_b195_ok, rfl, by decide +kernel, by decide +kernel⟩
theorem tb_r196 : tb_rok (196, tb_K11, tb_b196, 6, some .boolean, false) := ⟨tb_K11_ok, tb_b196_ok, rfl, by decide +kernel, by decide +kernel⟩
theorem tb_r197 : tb_rok (197, tb_K11, tb_b197, 2, some .boolean, false) := ⟨tb_K11_ok, tb_b197_ok, rfl, by decide +kernel, by decide +kernel⟩
theorem tb_r198 : tb_rok (198, tb_K11, tb_b198, 4, some .boolean, false) := ⟨tb_K11_ok, tb_b198_ok, rfl, by decide +kernel, by decide +kernel⟩
theorem tb_r199 : tb_rok (199, tb_K11, tb_b199, 6, some .int, false) := ⟨tb_K11_ok, tb_b199_ok, rfl, by decide +kernel, by decide +kernel⟩
theorem tb_r200 : tb_rok (200, tb_K11, tb_b200, 3, some .boolean, false) := ⟨tb_K11_ok, tb_b200_ok, rfl, by decide +kernel, by decide +kernel⟩
theorem tb_r201 : tb_rok (201, tb_K11, tb_b201, 6, some .boolean, false) := ⟨tb_K11_ok, tb_b201_ok, rfl, by decide +kernel, by decide +kernel⟩
theorem tb_r202 : tb_rok (202, tb_K11, tb_b202, 4, some .int, false) := ⟨tb_K11_ok, tb_b202_ok, rfl, by decide +kernel, by decide +kernel⟩
theorem tb_r203 : tb_rok (203, tb_K11, tb_b203, 1, some .int, false) := ⟨tb_K11_ok, tb_b203_ok, rfl, by decide +kernel, by decide +kernel⟩
theorem tb_r204 : tb_rok (204, tb_K11, tb_b204, 6, some .int, false) := ⟨tb_K11_ok, tb_b204_ok, rfl, by decide +kernel, by decide +kernel⟩
theorem tb_r205 : tb_rok (205, tb_K11, tb_b205, 3, some .int, false) := ⟨tb_K11_ok, tb_b205_ok, rfl, by decide +kernel, by decide +kernel⟩
set_option maxRecDepth 100000 in
theorem tb_rec_ok : ∀ e ∈ tb_rec, tb_rok e := List.forall_mem_cons.mpr ⟨tb_r0, List.forall_mem_cons.mpr ⟨tb_r1, List.forall_mem_cons.mpr ⟨tb_r2, List.forall_mem_cons.mpr ⟨tb_r3, List.forall_mem_cons.mpr ⟨tb_r4, List.forall_mem_cons.mpr ⟨tb_r5, List.forall_mem_cons.mpr ⟨tb_r6, List.forall_mem_cons.mpr ⟨tb_r7, List.forall_mem_cons.mpr ⟨tb_r8, List.forall_mem_cons.mpr ⟨tb_r9, List.forall_mem_cons.mpr ⟨tb_r10, List.forall_mem_cons.mpr ⟨tb_r11, List.forall_mem_cons.mpr ⟨tb_r12, List.forall_mem_cons.mpr ⟨tb_r13, List.forall_mem_cons.mpr ⟨tb_r14, List.forall_mem_cons.mpr ⟨tb_r15, List.forall_mem_cons.mpr ⟨tb_r16, List.forall_mem_cons.mpr ⟨tb_r17, List.forall_mem_cons.mpr ⟨tb_r18, List.forall_mem_cons.mpr ⟨tb_r19, List.forall_mem_cons.mpr ⟨tb_r20, List.forall_mem_cons.mpr ⟨tb_r21, List.forall_mem_cons.mpr ⟨tb_r22, List.forall_mem_cons.mpr ⟨tb_r23, List.forall_mem_cons.mpr ⟨tb_r25, List.forall_mem_cons.mpr ⟨tb_r26, List.forall_mem_cons.mpr ⟨tb_r27, List.forall_mem_cons.mpr ⟨tb_r28, List.forall_mem_cons.mpr ⟨tb_r29, List.forall_mem_cons.mpr ⟨tb_r30, List.forall_mem_cons.mpr ⟨tb_r31, List.forall_mem_cons.mpr ⟨tb_r32, List.forall_mem_cons.mpr ⟨tb_r33, List.forall_mem_cons.mpr ⟨tb_r34, List.forall_mem_cons.mpr ⟨tb_r35, List.forall_mem_cons.mpr ⟨tb_r36, List.forall_mem_cons.mpr ⟨tb_r38, List.forall_mem_cons.mpr ⟨tb_r39, List.forall_mem_cons.mpr ⟨tb_r40, List.forall_mem_cons.mpr ⟨tb_r41, List.forall_mem_cons.mpr ⟨tb_r42, List.forall_mem_cons.mpr ⟨tb_r43, List.forall_mem_cons.mpr ⟨tb_r44, List.forall_mem_cons.mpr ⟨tb_r45, List.forall_mem_cons.mpr ⟨tb_r46, List.forall_mem_cons.mpr ⟨tb_r47, List.forall_mem_cons.mpr ⟨tb_r48, List.forall_mem_cons.mpr ⟨tb_r49, List.forall_mem_cons.mpr ⟨tb_r50, List.forall_mem_cons.mpr ⟨tb_r51, List.forall_mem_cons.mpr ⟨tb_r52, List.forall_mem_cons.mpr ⟨tb_r53, List.forall_mem_cons.mpr ⟨tb_r54, List.forall_mem_cons.mpr ⟨tb_r55, List.forall_mem_cons.mpr ⟨tb_r56, List.forall_mem_cons.mpr ⟨tb_r57, List.forall_mem_cons.mpr ⟨tb_r58, List.forall_mem_cons.mpr ⟨tb_r59, List.forall_mem_cons.mpr ⟨tb_r60, List.forall_mem_cons.mpr ⟨tb_r61, List.forall_mem_cons.mpr ⟨tb_r62, List.forall_mem_cons.mpr ⟨tb_r63, List.forall_mem_cons.mpr ⟨tb_r64, List.forall_mem_cons.mpr ⟨tb_r65, List.forall_mem_cons.mpr ⟨tb_r66, List.forall_mem_cons.mpr ⟨tb_r67, List.forall_mem_cons.mpr ⟨tb_r68, List.forall_mem_cons.mpr ⟨tb_r69, List.forall_mem_cons.mpr ⟨tb_r70, List.forall_mem_cons.mpr ⟨tb_r71, List.forall_mem_cons.mpr ⟨tb_r72, List.forall_mem_cons.mpr ⟨tb_r73, List.forall_mem_cons.mpr ⟨tb_r74, List.forall_mem_cons.mpr ⟨tb_r75, List.forall_mem_cons.mpr ⟨tb_r76, List.forall_mem_cons.mpr ⟨tb_r77, List.forall_mem_cons.mpr ⟨tb_r78, List.forall_mem_cons.mpr ⟨tb_r79, List.forall_mem_cons.mpr ⟨tb_r80, List.forall_mem_cons.mpr ⟨tb_r81, List.forall_mem_cons.mpr ⟨tb_r82, List.forall_mem_cons.mpr ⟨tb_r83, List.forall_mem_cons.mpr ⟨tb_r84, List.forall_mem_cons.mpr ⟨tb_r85, List.forall_mem_cons.mpr ⟨tb_r86, List.forall_mem_cons.mpr ⟨tb_r87, List.forall_mem_cons.mpr ⟨tb_r88, List.forall_mem_cons.mpr ⟨tb_r89, List.forall_mem_cons.mpr ⟨tb_r90, List.forall_mem_cons.mpr ⟨tb_r91, List.forall_mem_cons.mpr ⟨tb_r92, List.forall_mem_cons.mpr ⟨tb_r93, List.forall_mem_cons.mpr ⟨tb_r94, List.forall_mem_cons.mpr ⟨tb_r95, List.forall_mem_cons.mpr ⟨tb_r96, List.forall_mem_cons.mpr ⟨tb_r97, List.forall_mem_cons.mpr ⟨tb_r98, List.forall_mem_cons.mpr ⟨tb_r99, List.forall_mem_cons.mpr ⟨tb_r100, List.forall_mem_cons.mpr ⟨tb_r101, List.forall_mem_cons.mpr ⟨tb_r102, List.forall_mem_cons.mpr ⟨tb_r103, List.forall_mem_cons.mpr ⟨tb_r104, List.forall_mem_cons.mpr ⟨tb_r105, List.forall_mem_cons.mpr ⟨tb_r106, List.forall_mem_cons.mpr ⟨tb_r107, List.forall_mem_cons.mpr ⟨tb_r108, List.forall_mem_cons.mpr ⟨tb_r109, List.forall_mem_cons.mpr ⟨tb_r110, List.forall_mem_cons.mpr ⟨tb_r111, List.forall_mem_cons.mpr ⟨tb_r112, List.forall_mem_cons.mpr ⟨tb_r113, List.forall_mem_cons.mpr ⟨tb_r114, List.forall_mem_cons.mpr ⟨tb_r115, List.forall_mem_cons.mpr ⟨tb_r116, List.forall_mem_cons.mpr ⟨tb_r117, List.forall_mem_cons.mpr ⟨tb_r118, List.forall_mem_cons.mpr ⟨tb_r119, List.forall_mem_cons.mpr ⟨tb_r120, List.forall_mem_cons.mpr ⟨tb_r121, List.forall_mem_cons.mpr ⟨tb_r122, List.forall_mem_cons.mpr ⟨tb_r123, List.forall_mem_cons.mpr ⟨tb_r124, List.forall_mem_cons.mpr ⟨tb_r125, List.forall_mem_cons.mpr ⟨tb_r126, List.forall_mem_cons.mpr ⟨tb_r127, List.forall_mem_cons.mpr ⟨tb_r128, List.forall_mem_cons.mpr ⟨tb_r129, List.forall_mem_cons.mpr ⟨tb_r130, List.forall_mem_cons.mpr ⟨tb_r131, List.forall_mem_cons.mpr ⟨tb_r132, List.forall_mem_cons.mpr ⟨tb_r133, List.forall_mem_cons.mpr ⟨tb_r134, List.forall_mem_cons.mpr ⟨tb_r135, List.forall_mem_cons.mpr ⟨tb_r136, List.forall_mem_cons.mpr ⟨tb_r137, List.forall_mem_cons.mpr ⟨tb_r138, List.forall_mem_cons.mpr ⟨tb_r139, List.forall_mem_cons.mpr ⟨tb_r140, List.forall_mem_cons.mpr ⟨tb_r141, List.forall_mem_cons.mpr ⟨tb_r142, List.forall_mem_cons.mpr ⟨tb_r143, List.forall_mem_cons.mpr ⟨tb_r144, List.forall_mem_cons.mpr ⟨tb_r145, List.forall_mem_cons.mpr ⟨tb_r146, List.forall_mem_cons.mpr ⟨tb_r147, List.forall_mem_cons.mpr ⟨tb_r148, List.forall_mem_cons.mpr ⟨tb_r149, List.forall_mem_cons.mpr ⟨tb_r150, List.forall_mem_cons.mpr ⟨tb_r151, List.forall_mem_cons.mpr ⟨tb_r152, List.forall_mem_cons.mpr ⟨tb_r153, List.forall_mem_cons.mpr ⟨tb_r154, List.forall_mem_cons.mpr ⟨tb_r155, List.forall_mem_cons.mpr ⟨tb_r156, List.forall_mem_cons.mpr ⟨tb_r157, List.forall_mem_cons.mpr ⟨tb_r158, List.forall_mem_cons.mpr ⟨tb_r159, List.forall_mem_cons.mpr ⟨tb_r160, List.forall_mem_cons.mpr ⟨tb_r161, List.forall_mem_cons.mpr ⟨tb_r162, List.forall_mem_cons.mpr ⟨tb_r163, List.forall_mem_cons.mpr ⟨tb_r164, List.forall_mem_cons.mpr ⟨tb_r165, List.forall_mem_cons.mpr ⟨tb_r166, List.forall_mem_cons.mpr ⟨tb_r167, List.forall_mem_cons.mpr ⟨tb_r168, List.forall_mem_cons.mpr ⟨tb_r169, List.forall_mem_cons.mpr ⟨tb_r170, List.forall_mem_cons.mpr ⟨tb_r171, List.forall_mem_cons.mpr ⟨tb_r172, List.forall_mem_cons.mpr ⟨tb_r173, List.forall_mem_cons.mpr ⟨tb_r174, List.forall_mem_cons.mpr ⟨tb_r175, List.forall_mem_cons.mpr ⟨tb_r176, List.forall_mem_cons.mpr ⟨tb_r177, List.forall_mem_cons.mpr ⟨tb_r178, List.forall_mem_cons.mpr ⟨tb_r179, List.forall_mem_cons.mpr ⟨tb_r180, List.forall_mem_cons.mpr ⟨tb_r181, List.forall_mem_cons.mpr ⟨tb_r182, List.forall_mem_cons.mpr ⟨tb_r183, List.forall_mem_cons.mpr ⟨tb_r184, List.forall_mem_cons.mpr ⟨tb_r185, List.forall_mem_cons.mpr ⟨tb_r186, List.forall_mem_cons.mpr ⟨tb_r187, List.forall_mem_cons.mpr ⟨tb_r188, List.forall_mem_cons.mpr ⟨tb_r189, List.forall_mem_cons.mpr ⟨tb_r190, List.forall_mem_cons.mpr ⟨tb_r191, List.forall_mem_cons.mpr ⟨tb_r192, List.forall_mem_cons.mpr ⟨tb_r193, List.forall_mem_cons.mpr ⟨tb_r194, List.forall_mem_cons.mpr ⟨tb_r195, List.forall_mem_cons.mpr ⟨tb_r196, List.forall_mem_cons.mpr ⟨tb_r197, List.forall_mem_cons.mpr ⟨tb_r198, List.forall_mem_cons.mpr ⟨tb_r199, List.forall_mem_cons.mpr ⟨tb_r200, List.forall_mem_cons.mpr ⟨tb_r201, List.forall_mem_cons.mpr ⟨tb_r202, List.forall_mem_cons.mpr ⟨tb_r203, List.forall_mem_cons.mpr ⟨tb_r204, List.forall_mem_cons.mpr ⟨tb_r205, fun _ h => absurd h List.not_mem_nil⟩⟩⟩⟩⟩⟩⟩⟩⟩⟩⟩⟩⟩⟩⟩⟩⟩⟩⟩⟩⟩⟩⟩⟩⟩⟩⟩⟩⟩⟩⟩⟩⟩⟩⟩⟩⟩⟩⟩⟩⟩⟩⟩⟩⟩⟩⟩⟩⟩⟩⟩⟩⟩⟩⟩⟩⟩⟩⟩⟩⟩⟩⟩⟩⟩⟩⟩⟩⟩⟩⟩⟩⟩⟩⟩⟩⟩⟩⟩⟩⟩⟩⟩⟩⟩⟩⟩⟩⟩⟩⟩⟩⟩⟩⟩⟩⟩⟩⟩⟩⟩⟩⟩⟩⟩⟩⟩⟩⟩⟩⟩⟩⟩⟩⟩⟩⟩⟩⟩⟩⟩⟩⟩⟩⟩⟩⟩⟩⟩⟩⟩⟩⟩⟩⟩⟩⟩⟩⟩⟩⟩⟩⟩⟩⟩⟩⟩⟩⟩⟩⟩⟩⟩⟩⟩⟩⟩⟩⟩⟩⟩⟩⟩⟩⟩⟩⟩⟩⟩⟩⟩⟩⟩⟩⟩⟩⟩⟩⟩⟩⟩⟩⟩⟩⟩⟩⟩⟩⟩⟩⟩⟩⟩⟩⟩⟩⟩⟩⟩⟩⟩⟩⟩⟩
def tb_fi : Nat := 24
def tb_fl : Nat := 37
def dp_fillI (P : dp_P) (p n : Nat) (v : Int32) : dp_P := (fun q j => bif Nat.beq q p then (bif Nat.ble (j + 1) n then some v else P.1 q j) else P.1 q j, P.2)
def dp_fillL (P : dp_P) (p n : Nat) (v : Int64) : dp_P := (P.1, fun q j => bif Nat.beq q p then (bif Nat.ble (j + 1) n then some v else P.2 q j) else P.2 q j)
/-- Arrays.fill, in one -/
def tb_pr (j : Nat) (As : List Value) (sh : sm_S) (P : dp_P) : Option dp_R := match As with
  | [.ref p, .int v] => dp_g (Nat.beq j tb_fi) (match sh[p]? with
    | some (.inr (c, n)) => dp_g (Nat.beq c 0) (dp_g (Nat.ble n 1000000) (some (none, sh, dp_fillI P p n v, dp_wu dp_w0 p)))
    | _ => none)
  | [.ref p, .long v] => dp_g (Nat.beq j tb_fl) (match sh[p]? with
    | some (.inr (c, n)) => dp_g (Nat.beq c 2) (dp_g (Nat.ble n 1000000) (some (none, sh, dp_fillL P p n v, dp_wu dp_w0 p)))
    | _ => none)
  | _ => none
def tb_cf : Nat → dp_F
  | 0 => fun _ _ _ _ => none
  | n + 1 => fun j As sh P => match tb_pr j As sh P with
    | some R => some R
    | none => dp_o (dp_lk tb_rec j) fun e => dp_g (Nat.ble (lg_sl As).length e.2.2.1) (match dp_go e.1 e.2 (tb_cf n) 16 (0, sm_L0 e.2.2.1 As, [], sh, P, dp_w0) with
      | some (.inr R) => some R
      | _ => none)
def tb_prok (Z : sm_Z) : Prop := ∀ (fr lo : Nat) (j : Nat) (As : List Value) (sh : sm_S) (P : dp_P) (R : dp_R), tb_pr j As sh P = some R → sh.length ≤ R.2.1.length ∧ sm_sl sh ≤ sm_sl R.2.1 ∧ ∀ (ad : Nat → Nat) (μ : sm_M), dp_le P μ → sm_C tb_cl Z (tb_ys j) (tb_ws j) (dp_rm (fr + 1) (lo + 32) sh R.2.1) As ad sh μ (dp_Q μ R)
theorem tb_cfok {Z : sm_Z} (hZ : Z.2.2.2 = tb_N) (hp : tb_prok Z) : ∀ n, dp_cfok tb_cl Z tb_ys tb_ws n (32 * n) (tb_cf n)
  | 0 => fun _ _ _ _ _ h => by cases h
  | n + 1 => by
    intro j As sh P R h
    unfold tb_cf at h
    split at h
    · rename_i R' hR
      cases h
      exact hp n (32 * n) j As sh P _ hR
    · obtain ⟨⟨K, M⟩, he, h⟩ := dp_o_ok h
      obtain ⟨hl, h⟩ := dp_g_ok h
      have hl := Nat.le_of_ble_eq_true hl
      simp only at h hl
      split at h
      · rename_i R' hR
        cases h
        obtain ⟨g1, g2, g3, g4, g5⟩ := tb_rec_ok _ (dp_lk_mem he)
        simp only at g1 g2 g3 g4 g5
        rw [g3]
        exact dp_meth g2 (hZ ▸ g1) (tb_cfok hZ hp n) g4 g5 hl hR
      · cases h
