noncomputable def gj_110_0 : List (Nat × sOp) := [(0, .inl (s_x_aload_n 0)), (1, .inl s_x_dup), (2, .inl (s_x_getfield 89)), (5, .inl (s_x_iconst 1)), (6, .inl s_x_iadd), (7, .inl (s_x_putfield 89)), (10, .inl (s_x_aload_n 0)), (11, .inl (s_x_getfield 12)), (14, .inr (.inr (.inr (1, 36)))), (17, .inl (s_x_astore_n 1)), (18, .inl (s_x_aload_n 1)), (19, .inr (.inr (.inr (3, 40)))), (24, .inr (.inl (s_sp_if, (s_x_ifCond .eq 23)))), (27, .inl (s_x_aload_n 1)), (28, .inr (.inr (.inr (3, 46))))]
theorem gw_110_0 : gj_110_0 = gi_110_0.map (fun e => (e.1, s_op e.2.1)) := rfl
noncomputable def gj_110_1 : List (Nat × sOp) := [(33, .inl s_x_no), (36, .inl (s_x_astore_n 2)), (37, .inl (s_x_aload_n 2)), (38, .inl (s_x_bipush 11)), (40, .inl (s_x_aload_n 2)), (41, .inl (s_x_iconst 2)), (42, .inr (.inl (s_sp_ia, s_x_iaload))), (43, .inl s_x_iastore), (44, .inl (s_x_goto (-26))), (47, .inl (s_x_iconst 0)), (48, .inl (s_x_istore_n 1)), (49, .inl (s_x_aload_n 0)), (50, .inl (s_x_getfield 29)), (53, .inl (s_x_iconst (-1))), (54, .inr (.inl (s_sp_ic, (s_x_if_icmp .eq 15)))), (57, .inl (s_x_aload_n 0)), (58, .inl (s_x_getfield 64)), (61, .inr (.inl (s_sp_if, (s_x_ifCond .ne 8))))]
theorem gw_110_1 : gj_110_1 = gi_110_1.map (fun e => (e.1, s_op e.2.1)) := rfl
noncomputable def gj_110_2 : List (Nat × sOp) := [(64, .inl (s_x_aload_n 0)), (65, .inr (.inr (.inr (1, 92)))), (68, .inl (s_x_istore_n 1)), (69, .inl (s_x_iconst 0)), (70, .inl (s_x_istore_n 2)), (71, .inl (s_x_iload_n 2)), (72, .inl (s_x_aload_n 0)), (73, .inl (s_x_getfield 12)), (76, .inr (.inr (.inr (1, 81)))), (79, .inr (.inl (s_sp_ic, (s_x_if_icmp .ge 62)))), (82, .inl (s_x_aload_n 0)), (83, .inl (s_x_getfield 12)), (86, .inl (s_x_iload_n 2)), (87, .inr (.inr (.inr (1, 71)))), (90, .inl s_x_no), (93, .inl (s_x_bipush 6)), (95, .inr (.inl (s_sp_ia, s_x_iaload)))]
theorem gw_110_2 : gj_110_2 = gi_110_2.map (fun e => (e.1, s_op e.2.1)) := rfl
noncomputable def gj_110_3 : List (Nat × sOp) := [(96, .inl (s_x_iconst 1)), (97, .inr (.inl (s_sp_ic, (s_x_if_icmp .ne 38)))), (100, .inl (s_x_aload_n 0)), (101, .inl (s_x_getfield 12)), (104, .inl (s_x_iload_n 2)), (105, .inr (.inr (.inr (1, 71)))), (108, .inl s_x_no), (111, .inl (s_x_bipush 11)), (113, .inr (.inl (s_sp_ia, s_x_iaload))), (114, .inl (s_x_aload_n 0)), (115, .inl (s_x_getfield 12)), (118, .inl (s_x_iload_n 2)), (119, .inr (.inr (.inr (1, 71)))), (122, .inl s_x_no), (125, .inl (s_x_iconst 2)), (126, .inr (.inl (s_sp_ia, s_x_iaload))), (127, .inr (.inl (s_sp_ic, (s_x_if_icmp .ne 8))))]
theorem gw_110_3 : gj_110_3 = gi_110_3.map (fun e => (e.1, s_op e.2.1)) := rfl
noncomputable def gj_110_4 : List (Nat × sOp) := [(130, .inl (s_x_aload_n 0)), (131, .inl (s_x_iload_n 2)), (132, .inr (.inr (.inr (1, 95)))), (135, .inl (s_x_iinc 2 1)), (138, .inl (s_x_goto (-67))), (141, .inl (s_x_aload_n 0)), (142, .inl (s_x_getfield 29)), (145, .inl (s_x_iconst (-1))), (146, .inr (.inl (s_sp_ic, (s_x_if_icmp .eq 10)))), (149, .inl (s_x_aload_n 0)), (150, .inr (.inr (.inr (1, 99)))), (153, .inr (.inl (s_sp_if, (s_x_ifCond .le 5)))), (156, .inl (s_x_iload_n 1)), (157, .inr (.inr (.inl 0))), (158, .inl (s_x_aload_n 0)), (159, .inl (s_x_getfield 21))]
theorem gw_110_4 : gj_110_4 = gi_110_4.map (fun e => (e.1, s_op e.2.1)) := rfl
noncomputable def gj_110_5 : List (Nat × sOp) := [(162, .inl (s_x_aload_n 0)), (163, .inl (s_x_getfield 29)), (166, .inr (.inl (s_sp_ia, s_x_iaload))), (167, .inl (s_x_istore_n 2)), (168, .inl (s_x_aload_n 0)), (169, .inl s_x_dup), (170, .inl (s_x_getfield 102)), (173, .inl (s_x_iconst 1)), (174, .inl s_x_iadd), (175, .inl (s_x_putfield 102)), (178, .inl (s_x_aload_n 0)), (179, .inr (.inr (.inr (1, 105)))), (182, .inl (s_x_iload_n 2)), (183, .inl (s_x_iconst (-1))), (184, .inr (.inl (s_sp_ic, (s_x_if_icmp .eq 19)))), (187, .inl (s_x_iload_n 2)), (188, .inl (s_x_aload_n 0)), (189, .inl (s_x_getfield 18))]
theorem gw_110_5 : gj_110_5 = gi_110_5.map (fun e => (e.1, s_op e.2.1)) := rfl
noncomputable def gj_110_6 : List (Nat × sOp) := [(192, .inr (.inr (.inr (1, 81)))), (195, .inr (.inl (s_sp_ic, (s_x_if_icmp .ge 8)))), (198, .inl (s_x_aload_n 0)), (199, .inl (s_x_iload_n 2)), (200, .inr (.inr (.inr (1, 108)))), (203, .inl (s_x_iload_n 1)), (204, .inr (.inr (.inl 0)))]
theorem gw_110_6 : gj_110_6 = gi_110_6.map (fun e => (e.1, s_op e.2.1)) := rfl
noncomputable def gj_110 : List (List (Nat × sOp)) := [gj_110_0, gj_110_1, gj_110_2, gj_110_3, gj_110_4, gj_110_5, gj_110_6]
theorem gw_110 : gj_110 = gi_110.map (fun ch => ch.map (fun e => (e.1, s_op e.2.1))) := by
  unfold gj_110 gi_110
  simp only [gw_110_0, gw_110_1, gw_110_2, gw_110_3, gw_110_4, gw_110_5, gw_110_6, List.map_cons, List.map_nil]
noncomputable def gj_111_0 : List (Nat × sOp) := [(0, .inl (s_x_aload_n 0)), (1, .inl (s_x_iconst 0)), (2, .inl (s_x_putfield 23)), (5, .inl (s_x_iload_n 1)), (6, .inl (s_x_iconst 1)), (7, .inl (s_x_bipush 120)), (9, .inr (.inr (.inr (0, 34)))), (12, .inr (.inl (s_sp_if, (s_x_ifCond .ne 9)))), (15, .inl (s_x_aload_n 0)), (16, .inl (s_x_iconst 1)), (17, .inr (.inr (.inr (1, 41)))), (20, .inr (.inr (.inl 0))), (21, .inl (s_x_aload_n 0)), (22, .inl (s_x_getfield 19)), (25, .inl (s_x_getfield 118)), (28, .inl (s_x_iload_n 1)), (29, .inl s_x_iadd), (30, .inl (s_x_sipush 3000))]
theorem gw_111_0 : gj_111_0 = gi_111_0.map (fun e => (e.1, s_op e.2.1)) := rfl
noncomputable def gj_111_1 : List (Nat × sOp) := [(33, .inr (.inl (s_sp_ic, (s_x_if_icmp .le 9)))), (36, .inl (s_x_aload_n 0)), (37, .inl (s_x_iconst 2)), (38, .inr (.inr (.inr (1, 41)))), (41, .inr (.inr (.inl 0))), (42, .inl (s_x_iconst 0)), (43, .inl (s_x_istore_n 2)), (44, .inl (s_x_iconst 0)), (45, .inl (s_x_istore_n 3)), (46, .inl (s_x_iload_n 3)), (47, .inl (s_x_iload_n 1)), (48, .inr (.inl (s_sp_ic, (s_x_if_icmp .ge 19)))), (51, .inl (s_x_iload_n 2)), (52, .inl (s_x_aload_n 0)), (53, .inl (s_x_getfield 19)), (56, .inr (.inr (.inr (1, 121)))), (59, .inl s_x_iadd), (60, .inl (s_x_istore_n 2)), (61, .inl (s_x_iinc 3 1))]
theorem gw_111_1 : gj_111_1 = gi_111_1.map (fun e => (e.1, s_op e.2.1)) := rfl
noncomputable def gj_111_2 : List (Nat × sOp) := [(64, .inl (s_x_goto (-18))), (67, .inl (s_x_iload_n 2)), (68, .inr (.inr (.inl 0)))]
theorem gw_111_2 : gj_111_2 = gi_111_2.map (fun e => (e.1, s_op e.2.1)) := rfl
noncomputable def gj_111 : List (List (Nat × sOp)) := [gj_111_0, gj_111_1, gj_111_2]
theorem gw_111 : gj_111 = gi_111.map (fun ch => ch.map (fun e => (e.1, s_op e.2.1))) := by
  unfold gj_111 gi_111
  simp only [gw_111_0, gw_111_1, gw_111_2, List.map_cons, List.map_nil]
noncomputable def gj_112_0 : List (Nat × sOp) := [(0, .inl (s_x_aload_n 0)), (1, .inl (s_x_getfield 10)), (4, .inl (s_x_iload_n 1)), (5, .inr (.inr (.inr (1, 102)))), (8, .inl (s_x_astore_n 3)), (9, .inl (s_x_iload_n 2)), (10, .inr (.inl (s_sp_ts 0 12, s_x_tableswitch 154 0 11 #[62, 75, 80, 85, 90, 95, 100, 105, 110, 123, 136, 149])))]
theorem gw_112_0 : gj_112_0 = gi_112_0.map (fun e => (e.1, s_op e.2.1)) := rfl
noncomputable def gj_112_1 : List (Nat × sOp) := []
theorem gw_112_1 : gj_112_1 = gi_112_1.map (fun e => (e.1, s_op e.2.1)) := rfl
noncomputable def gj_112_2 : List (Nat × sOp) := [(72, .inl (s_x_aload_n 3)), (73, .inl (s_x_getfield 50)), (76, .inr (.inl (s_sp_if, (s_x_ifCond .eq 7)))), (79, .inl (s_x_iconst 1)), (80, .inl (s_x_goto 4)), (83, .inl (s_x_iconst 0)), (84, .inr (.inr (.inl 0))), (85, .inl (s_x_aload_n 3)), (86, .inl (s_x_getfield 56)), (89, .inr (.inr (.inl 0))), (90, .inl (s_x_aload_n 3)), (91, .inl (s_x_getfield 223)), (94, .inr (.inr (.inl 0))), (95, .inl (s_x_aload_n 3))]
theorem gw_112_2 : gj_112_2 = gi_112_2.map (fun e => (e.1, s_op e.2.1)) := rfl
noncomputable def gj_112_3 : List (Nat × sOp) := [(96, .inl (s_x_getfield 182)), (99, .inr (.inr (.inl 0))), (100, .inl (s_x_aload_n 3)), (101, .inl (s_x_getfield 168)), (104, .inr (.inr (.inl 0))), (105, .inl (s_x_aload_n 3)), (106, .inl (s_x_getfield 226)), (109, .inr (.inr (.inl 0))), (110, .inl (s_x_aload_n 3)), (111, .inl (s_x_getfield 229)), (114, .inr (.inr (.inl 0))), (115, .inl (s_x_aload_n 3)), (116, .inr (.inr (.inr (1, 185)))), (119, .inr (.inr (.inl 0))), (120, .inl (s_x_aload_n 3)), (121, .inl (s_x_getfield 151)), (124, .inr (.inl (s_sp_if, (s_x_ifCond .eq 7)))), (127, .inl (s_x_iconst 1))]
theorem gw_112_3 : gj_112_3 = gi_112_3.map (fun e => (e.1, s_op e.2.1)) := rfl
noncomputable def gj_112_4 : List (Nat × sOp) := [(128, .inl (s_x_goto 4)), (131, .inl (s_x_iconst 0)), (132, .inr (.inr (.inl 0))), (133, .inl (s_x_aload_n 3)), (134, .inl (s_x_getfield 154)), (137, .inr (.inl (s_sp_if, (s_x_ifCond .eq 7)))), (140, .inl (s_x_iconst 1)), (141, .inl (s_x_goto 4)), (144, .inl (s_x_iconst 0)), (145, .inr (.inr (.inl 0))), (146, .inl (s_x_aload_n 3)), (147, .inl (s_x_getfield 207)), (150, .inr (.inl (s_sp_if, (s_x_ifCond .eq 7)))), (153, .inl (s_x_iconst 1)), (154, .inl (s_x_goto 4)), (157, .inl (s_x_iconst 0)), (158, .inr (.inr (.inl 0))), (159, .inl (s_x_aload_n 3))]
theorem gw_112_4 : gj_112_4 = gi_112_4.map (fun e => (e.1, s_op e.2.1)) := rfl
noncomputable def gj_112_5 : List (Nat × sOp) := [(160, .inl (s_x_getfield 232)), (163, .inr (.inr (.inl 0))), (164, .inl (s_x_new 30)), (167, .inl s_x_dup), (168, .inl (s_x_ldc 235)), (170, .inr (.inr (.inr (2, 34)))), (173, .inl s_x_no)]
theorem gw_112_5 : gj_112_5 = gi_112_5.map (fun e => (e.1, s_op e.2.1)) := rfl
noncomputable def gj_112 : List (List (Nat × sOp)) := [gj_112_0, gj_112_1, gj_112_2, gj_112_3, gj_112_4, gj_112_5]
theorem gw_112 : gj_112 = gi_112.map (fun ch => ch.map (fun e => (e.1, s_op e.2.1))) := by
  unfold gj_112 gi_112
  simp only [gw_112_0, gw_112_1, gw_112_2, gw_112_3, gw_112_4, gw_112_5, List.map_cons, List.map_nil]
noncomputable def gj_113_0 : List (Nat × sOp) := [(0, .inl (s_x_aload_n 3)), (1, .inl (s_x_iconst 0)), (2, .inl (s_x_aload_n 0)), (3, .inl (s_x_iload_n 1)), (4, .inl (s_x_iload_n 2)), (5, .inr (.inr (.inr (1, 66)))), (8, .inl s_x_i2l), (9, .inl s_x_lastore), (10, .inl (s_x_goto 11)), (13, .inl (s_x_astore 4)), (15, .inl (s_x_iconst 1)), (16, .inr (.inr (.inl 0))), (17, .inl (s_x_astore 4)), (19, .inl (s_x_iconst 2)), (20, .inr (.inr (.inl 0))), (21, .inl (s_x_iconst 0)), (22, .inr (.inr (.inl 0)))]
theorem gw_113_0 : gj_113_0 = gi_113_0.map (fun e => (e.1, s_op e.2.1)) := rfl
noncomputable def gj_113 : List (List (Nat × sOp)) := [gj_113_0]
theorem gw_113 : gj_113 = gi_113.map (fun ch => ch.map (fun e => (e.1, s_op e.2.1))) := by
  unfold gj_113 gi_113
  simp only [gw_113_0, List.map_cons, List.map_nil]
noncomputable def gj_114_0 : List (Nat × sOp) := [(0, .inl (s_x_aload_n 0)), (1, .inl (s_x_getfield 19)), (4, .inl (s_x_getfield 27)), (7, .inl (s_x_iload_n 1)), (8, .inr (.inr (.inr (1, 60)))), (11, .inl s_x_no), (14, .inl (s_x_astore_n 3)), (15, .inl (s_x_bipush 12)), (17, .inl (s_x_newarray .int)), (19, .inl s_x_dup), (20, .inl (s_x_iconst 0)), (21, .inl (s_x_aload_n 3)), (22, .inl (s_x_iconst 0)), (23, .inr (.inl (s_sp_ia, s_x_iaload))), (24, .inl s_x_iastore), (25, .inl s_x_dup), (26, .inl (s_x_iconst 1)), (27, .inl (s_x_aload_n 3)), (28, .inl (s_x_iconst 1)), (29, .inr (.inl (s_sp_ia, s_x_iaload))), (30, .inl s_x_iastore), (31, .inl s_x_dup)]
theorem gw_114_0 : gj_114_0 = gi_114_0.map (fun e => (e.1, s_op e.2.1)) := rfl
noncomputable def gj_114_1 : List (Nat × sOp) := [(32, .inl (s_x_iconst 2)), (33, .inl (s_x_aload_n 3)), (34, .inl (s_x_iconst 2)), (35, .inr (.inl (s_sp_ia, s_x_iaload))), (36, .inl s_x_iastore), (37, .inl s_x_dup), (38, .inl (s_x_iconst 3)), (39, .inl (s_x_aload_n 3)), (40, .inl (s_x_iconst 3)), (41, .inr (.inl (s_sp_ia, s_x_iaload))), (42, .inl s_x_iastore), (43, .inl s_x_dup), (44, .inl (s_x_iconst 4)), (45, .inl (s_x_aload_n 3)), (46, .inl (s_x_bipush 8)), (48, .inr (.inl (s_sp_ia, s_x_iaload))), (49, .inl s_x_iastore), (50, .inl s_x_dup), (51, .inl (s_x_iconst 5)), (52, .inl (s_x_aload_n 3)), (53, .inl (s_x_bipush 9)), (55, .inr (.inl (s_sp_ia, s_x_iaload))), (56, .inl s_x_iastore), (57, .inl s_x_dup), (58, .inl (s_x_bipush 6)), (60, .inl (s_x_aload_n 3)), (61, .inl (s_x_bipush 10)), (63, .inr (.inl (s_sp_ia, s_x_iaload)))]
theorem gw_114_1 : gj_114_1 = gi_114_1.map (fun e => (e.1, s_op e.2.1)) := rfl
noncomputable def gj_114_2 : List (Nat × sOp) := [(64, .inl s_x_iastore), (65, .inl s_x_dup), (66, .inl (s_x_bipush 7)), (68, .inl (s_x_aload_n 3)), (69, .inr (.inr (.inr (0, 101)))), (72, .inl s_x_iastore), (73, .inl s_x_dup), (74, .inl (s_x_bipush 8)), (76, .inl (s_x_aload_n 3)), (77, .inl (s_x_iconst 4)), (78, .inr (.inl (s_sp_ia, s_x_iaload))), (79, .inl s_x_iastore), (80, .inl s_x_dup), (81, .inl (s_x_bipush 9)), (83, .inl (s_x_aload_n 3)), (84, .inl (s_x_iconst 5)), (85, .inr (.inl (s_sp_ia, s_x_iaload))), (86, .inl s_x_iastore), (87, .inl s_x_dup), (88, .inl (s_x_bipush 10)), (90, .inl (s_x_aload_n 3)), (91, .inl (s_x_bipush 6)), (93, .inr (.inl (s_sp_ia, s_x_iaload))), (94, .inl s_x_iastore), (95, .inl s_x_dup)]
theorem gw_114_2 : gj_114_2 = gi_114_2.map (fun e => (e.1, s_op e.2.1)) := rfl
noncomputable def gj_114_3 : List (Nat × sOp) := [(96, .inl (s_x_bipush 11)), (98, .inl (s_x_aload_n 3)), (99, .inl (s_x_bipush 7)), (101, .inr (.inl (s_sp_ia, s_x_iaload))), (102, .inl s_x_iastore), (103, .inl (s_x_astore 4)), (105, .inl (s_x_aload 4)), (107, .inl (s_x_iload_n 2)), (108, .inr (.inl (s_sp_ia, s_x_iaload))), (109, .inr (.inr (.inl 0)))]
theorem gw_114_3 : gj_114_3 = gi_114_3.map (fun e => (e.1, s_op e.2.1)) := rfl
noncomputable def gj_114 : List (List (Nat × sOp)) := [gj_114_0, gj_114_1, gj_114_2, gj_114_3]
theorem gw_114 : gj_114 = gi_114.map (fun ch => ch.map (fun e => (e.1, s_op e.2.1))) := by
  unfold gj_114 gi_114
  simp only [gw_114_0, gw_114_1, gw_114_2, gw_114_3, List.map_cons, List.map_nil]
noncomputable def gj_115_0 : List (Nat × sOp) := [(0, .inl (s_x_aload_n 0)), (1, .inl (s_x_iconst 0)), (2, .inl (s_x_putfield 23)), (5, .inl (s_x_aload_n 0)), (6, .inl (s_x_iload_n 1)), (7, .inr (.inr (.inr (1, 57)))), (10, .inr (.inl (s_sp_if, (s_x_ifCond .ne 9)))), (13, .inl (s_x_aload_n 0)), (14, .inl (s_x_iconst 1)), (15, .inr (.inr (.inr (1, 41)))), (18, .inr (.inr (.inl 0))), (19, .inl (s_x_iload_n 2)), (20, .inl (s_x_iconst 0)), (21, .inl (s_x_bipush 11)), (23, .inr (.inr (.inr (0, 34)))), (26, .inr (.inl (s_sp_if, (s_x_ifCond .eq 12)))), (29, .inl (s_x_aload_n 0)), (30, .inl (s_x_iload_n 1)), (31, .inl (s_x_iload_n 2))]
theorem gw_115_0 : gj_115_0 = gi_115_0.map (fun e => (e.1, s_op e.2.1)) := rfl
noncomputable def gj_115_1 : List (Nat × sOp) := [(32, .inr (.inr (.inr (1, 124)))), (35, .inl (s_x_goto 8)), (38, .inl (s_x_aload_n 0)), (39, .inl (s_x_iconst 2)), (40, .inr (.inr (.inr (1, 41)))), (43, .inr (.inr (.inl 0)))]
theorem gw_115_1 : gj_115_1 = gi_115_1.map (fun e => (e.1, s_op e.2.1)) := rfl
noncomputable def gj_115 : List (List (Nat × sOp)) := [gj_115_0, gj_115_1]
theorem gw_115 : gj_115 = gi_115.map (fun ch => ch.map (fun e => (e.1, s_op e.2.1))) := by
  unfold gj_115 gi_115
  simp only [gw_115_0, gw_115_1, List.map_cons, List.map_nil]
noncomputable def gj_116_0 : List (Nat × sOp) := [(0, .inl (s_x_aload_n 0)), (1, .inl (s_x_iload_n 1)), (2, .inr (.inr (.inr (1, 157)))), (5, .inl (s_x_astore_n 3)), (6, .inl (s_x_iload_n 2)), (7, .inr (.inl (s_sp_ts 0 4, s_x_tableswitch 49 0 3 #[29, 34, 39, 44])))]
theorem gw_116_0 : gj_116_0 = gi_116_0.map (fun e => (e.1, s_op e.2.1)) := rfl
noncomputable def gj_116_1 : List (Nat × sOp) := [(36, .inl (s_x_aload_n 3)), (37, .inl (s_x_getfield 73)), (40, .inr (.inr (.inl 0))), (41, .inl (s_x_aload_n 3)), (42, .inl (s_x_getfield 76)), (45, .inr (.inr (.inl 0))), (46, .inl (s_x_aload_n 3)), (47, .inl (s_x_getfield 79)), (50, .inr (.inr (.inl 0))), (51, .inl (s_x_aload_n 3)), (52, .inl (s_x_getfield 161)), (55, .inr (.inr (.inl 0))), (56, .inl (s_x_new 30)), (59, .inl s_x_dup), (60, .inl (s_x_ldc 237)), (62, .inr (.inr (.inr (2, 34))))]
theorem gw_116_1 : gj_116_1 = gi_116_1.map (fun e => (e.1, s_op e.2.1)) := rfl
noncomputable def gj_116_2 : List (Nat × sOp) := [(65, .inl s_x_no)]
theorem gw_116_2 : gj_116_2 = gi_116_2.map (fun e => (e.1, s_op e.2.1)) := rfl
noncomputable def gj_116 : List (List (Nat × sOp)) := [gj_116_0, gj_116_1, gj_116_2]
theorem gw_116 : gj_116 = gi_116.map (fun ch => ch.map (fun e => (e.1, s_op e.2.1))) := by
  unfold gj_116 gi_116
  simp only [gw_116_0, gw_116_1, gw_116_2, List.map_cons, List.map_nil]
noncomputable def gj_117_0 : List (Nat × sOp) := [(0, .inl (s_x_aload_n 3)), (1, .inl (s_x_iconst 0)), (2, .inl (s_x_aload_n 0)), (3, .inl (s_x_iload_n 1)), (4, .inl (s_x_iload_n 2)), (5, .inr (.inr (.inr (1, 69)))), (8, .inl s_x_i2l), (9, .inl s_x_lastore), (10, .inl (s_x_goto 11)), (13, .inl (s_x_astore 4)), (15, .inl (s_x_iconst 1)), (16, .inr (.inr (.inl 0))), (17, .inl (s_x_astore 4)), (19, .inl (s_x_iconst 2)), (20, .inr (.inr (.inl 0))), (21, .inl (s_x_iconst 0)), (22, .inr (.inr (.inl 0)))]
theorem gw_117_0 : gj_117_0 = gi_117_0.map (fun e => (e.1, s_op e.2.1)) := rfl
noncomputable def gj_117 : List (List (Nat × sOp)) := [gj_117_0]
theorem gw_117 : gj_117 = gi_117.map (fun ch => ch.map (fun e => (e.1, s_op e.2.1))) := by
  unfold gj_117 gi_117
  simp only [gw_117_0, List.map_cons, List.map_nil]
noncomputable def gj_118_0 : List (Nat × sOp) := [(0, .inl (s_x_aload_n 0)), (1, .inl (s_x_iconst 0)), (2, .inl (s_x_putfield 23)), (5, .inl (s_x_aload_n 0)), (6, .inl (s_x_iload_n 1)), (7, .inr (.inr (.inr (1, 91)))), (10, .inr (.inl (s_sp_if, (s_x_ifCond .ne 9)))), (13, .inl (s_x_aload_n 0)), (14, .inl (s_x_iconst 1)), (15, .inr (.inr (.inr (1, 41)))), (18, .inr (.inr (.inl 0))), (19, .inl (s_x_iload_n 2)), (20, .inl (s_x_iconst 0)), (21, .inl (s_x_iconst 3)), (22, .inr (.inr (.inr (0, 34)))), (25, .inr (.inl (s_sp_if, (s_x_ifCond .eq 19)))), (28, .inl (s_x_aload_n 0)), (29, .inl (s_x_getfield 10))]
theorem gw_118_0 : gj_118_0 = gi_118_0.map (fun e => (e.1, s_op e.2.1)) := rfl
noncomputable def gj_118_1 : List (Nat × sOp) := [(32, .inl (s_x_iload_n 1)), (33, .inr (.inr (.inr (1, 60)))), (36, .inl s_x_no), (39, .inl (s_x_iload_n 2)), (40, .inr (.inl (s_sp_ia, s_x_iaload))), (41, .inl (s_x_goto 8)), (44, .inl (s_x_aload_n 0)), (45, .inl (s_x_iconst 2)), (46, .inr (.inr (.inr (1, 41)))), (49, .inr (.inr (.inl 0)))]
theorem gw_118_1 : gj_118_1 = gi_118_1.map (fun e => (e.1, s_op e.2.1)) := rfl
noncomputable def gj_118 : List (List (Nat × sOp)) := [gj_118_0, gj_118_1]
theorem gw_118 : gj_118 = gi_118.map (fun ch => ch.map (fun e => (e.1, s_op e.2.1))) := by
  unfold gj_118 gi_118
  simp only [gw_118_0, gw_118_1, List.map_cons, List.map_nil]
noncomputable def gj_119_0 : List (Nat × sOp) := [(0, .inl (s_x_iload_n 1)), (1, .inr (.inl (s_sp_if, (s_x_ifCond .lt 11)))), (4, .inl (s_x_iload_n 1)), (5, .inl (s_x_aload_n 0)), (6, .inl (s_x_getfield 22)), (9, .inr (.inl (s_sp_ic, (s_x_if_icmp .lt 13)))), (12, .inl (s_x_new 29)), (15, .inl s_x_dup), (16, .inl (s_x_ldc 31)), (18, .inr (.inr (.inr (2, 33)))), (21, .inl s_x_no), (22, .inl (s_x_aload_n 0)), (23, .inl (s_x_getfield 17)), (26, .inl (s_x_iload_n 1)), (27, .inl s_x_aaload), (28, .inr (.inr (.inl 3)))]
theorem gw_119_0 : gj_119_0 = gi_119_0.map (fun e => (e.1, s_op e.2.1)) := rfl
noncomputable def gj_119 : List (List (Nat × sOp)) := [gj_119_0]
theorem gw_119 : gj_119 = gi_119.map (fun ch => ch.map (fun e => (e.1, s_op e.2.1))) := by
  unfold gj_119 gi_119
  simp only [gw_119_0, List.map_cons, List.map_nil]
noncomputable def gj_120_0 : List (Nat × sOp) := [(0, .inl (s_x_aload_n 0)), (1, .inl (s_x_getfield 10)), (4, .inl (s_x_iload_n 1)), (5, .inr (.inr (.inr (1, 98)))), (8, .inl (s_x_iload_n 2)), (9, .inr (.inr (.inr (1, 239)))), (12, .inl (s_x_astore 4)), (14, .inl (s_x_iload_n 3)), (15, .inr (.inl (s_sp_ts 0 6, s_x_tableswitch 73 0 5 #[37, 43, 49, 55, 61, 67])))]
theorem gw_120_0 : gj_120_0 = gi_120_0.map (fun e => (e.1, s_op e.2.1)) := rfl
noncomputable def gj_120_1 : List (Nat × sOp) := [(52, .inl (s_x_aload 4)), (54, .inl (s_x_getfield 132)), (57, .inr (.inr (.inl 0))), (58, .inl (s_x_aload 4)), (60, .inl (s_x_getfield 137)), (63, .inr (.inr (.inl 0)))]
theorem gw_120_1 : gj_120_1 = gi_120_1.map (fun e => (e.1, s_op e.2.1)) := rfl
noncomputable def gj_120_2 : List (Nat × sOp) := [(64, .inl (s_x_aload 4)), (66, .inl (s_x_getfield 140)), (69, .inr (.inr (.inl 0))), (70, .inl (s_x_aload 4)), (72, .inl (s_x_getfield 143)), (75, .inr (.inr (.inl 0))), (76, .inl (s_x_aload 4)), (78, .inl (s_x_getfield 243)), (81, .inr (.inr (.inl 0))), (82, .inl (s_x_aload 4)), (84, .inl (s_x_getfield 246)), (87, .inr (.inr (.inl 0))), (88, .inl (s_x_new 30)), (91, .inl s_x_dup), (92, .inl (s_x_ldc 249)), (94, .inr (.inr (.inr (2, 34))))]
theorem gw_120_2 : gj_120_2 = gi_120_2.map (fun e => (e.1, s_op e.2.1)) := rfl
noncomputable def gj_120_3 : List (Nat × sOp) := [(97, .inl s_x_no)]
theorem gw_120_3 : gj_120_3 = gi_120_3.map (fun e => (e.1, s_op e.2.1)) := rfl
noncomputable def gj_120 : List (List (Nat × sOp)) := [gj_120_0, gj_120_1, gj_120_2, gj_120_3]
theorem gw_120 : gj_120 = gi_120.map (fun ch => ch.map (fun e => (e.1, s_op e.2.1))) := by
  unfold gj_120 gi_120
  simp only [gw_120_0, gw_120_1, gw_120_2, gw_120_3, List.map_cons, List.map_nil]
noncomputable def gj_121_0 : List (Nat × sOp) := [(0, .inl (s_x_aload 4)), (2, .inl (s_x_iconst 0)), (3, .inl (s_x_aload_n 0)), (4, .inl (s_x_iload_n 1)), (5, .inl (s_x_iload_n 2)), (6, .inl (s_x_iload_n 3)), (7, .inr (.inr (.inr (1, 72)))), (10, .inl s_x_i2l), (11, .inl s_x_lastore), (12, .inl (s_x_goto 11)), (15, .inl (s_x_astore 5)), (17, .inl (s_x_iconst 1)), (18, .inr (.inr (.inl 0))), (19, .inl (s_x_astore 5)), (21, .inl (s_x_iconst 2)), (22, .inr (.inr (.inl 0))), (23, .inl (s_x_iconst 0)), (24, .inr (.inr (.inl 0)))]
theorem gw_121_0 : gj_121_0 = gi_121_0.map (fun e => (e.1, s_op e.2.1)) := rfl
noncomputable def gj_121 : List (List (Nat × sOp)) := [gj_121_0]
theorem gw_121 : gj_121 = gi_121.map (fun ch => ch.map (fun e => (e.1, s_op e.2.1))) := by
  unfold gj_121 gi_121
  simp only [gw_121_0, List.map_cons, List.map_nil]
noncomputable def gj_122_0 : List (Nat × sOp) := [(0, .inl (s_x_aload_n 0)), (1, .inl (s_x_iconst 0)), (2, .inl (s_x_putfield 23)), (5, .inl (s_x_aload_n 0)), (6, .inl (s_x_iload_n 1)), (7, .inr (.inr (.inr (1, 53)))), (10, .inr (.inl (s_sp_if, (s_x_ifCond .eq 30)))), (13, .inl (s_x_iload_n 2)), (14, .inl (s_x_iconst 0)), (15, .inl (s_x_aload_n 0)), (16, .inl (s_x_getfield 19)), (19, .inl (s_x_getfield 38)), (22, .inl (s_x_iload_n 1)), (23, .inr (.inr (.inr (1, 60)))), (26, .inl s_x_no), (29, .inr (.inr (.inr (1, 30))))]
theorem gw_122_0 : gj_122_0 = gi_122_0.map (fun e => (e.1, s_op e.2.1)) := rfl
noncomputable def gj_122_1 : List (Nat × sOp) := [(32, .inl (s_x_iconst 1)), (33, .inl s_x_isub), (34, .inr (.inr (.inr (0, 34)))), (37, .inr (.inl (s_sp_if, (s_x_ifCond .ne 9)))), (40, .inl (s_x_aload_n 0)), (41, .inl (s_x_iconst 1)), (42, .inr (.inr (.inr (1, 41)))), (45, .inr (.inr (.inl 0))), (46, .inl (s_x_iload_n 3)), (47, .inl (s_x_iconst 0)), (48, .inl (s_x_iconst 5)), (49, .inr (.inr (.inr (0, 34)))), (52, .inr (.inl (s_sp_if, (s_x_ifCond .eq 29)))), (55, .inl (s_x_aload_n 0)), (56, .inl (s_x_getfield 19)), (59, .inl (s_x_getfield 38)), (62, .inl (s_x_iload_n 1)), (63, .inr (.inr (.inr (1, 60))))]
theorem gw_122_1 : gj_122_1 = gi_122_1.map (fun e => (e.1, s_op e.2.1)) := rfl
noncomputable def gj_122_2 : List (Nat × sOp) := [(66, .inl s_x_no), (69, .inl (s_x_iload_n 2)), (70, .inr (.inr (.inr (1, 60)))), (73, .inl s_x_no), (76, .inl (s_x_iload_n 3)), (77, .inr (.inl (s_sp_ia, s_x_iaload))), (78, .inl (s_x_goto 8)), (81, .inl (s_x_aload_n 0)), (82, .inl (s_x_iconst 2)), (83, .inr (.inr (.inr (1, 41)))), (86, .inr (.inr (.inl 0)))]
theorem gw_122_2 : gj_122_2 = gi_122_2.map (fun e => (e.1, s_op e.2.1)) := rfl
noncomputable def gj_122 : List (List (Nat × sOp)) := [gj_122_0, gj_122_1, gj_122_2]
theorem gw_122 : gj_122 = gi_122.map (fun ch => ch.map (fun e => (e.1, s_op e.2.1))) := by
  unfold gj_122 gi_122
  simp only [gw_122_0, gw_122_1, gw_122_2, List.map_cons, List.map_nil]
noncomputable def gj_123_0 : List (Nat × sOp) := [(0, .inl (s_x_aload_n 0)), (1, .inl (s_x_getfield 10)), (4, .inl (s_x_iload_n 1)), (5, .inr (.inr (.inr (1, 102)))), (8, .inl (s_x_astore_n 3)), (9, .inl (s_x_aload_n 0)), (10, .inl (s_x_getfield 10)), (13, .inl (s_x_iload_n 2)), (14, .inr (.inr (.inr (1, 102)))), (17, .inl (s_x_astore 4)), (19, .inl (s_x_aload_n 3)), (20, .inl (s_x_aload_n 3)), (21, .inl (s_x_getfield 223)), (24, .inl (s_x_aload 4)), (26, .inr (.inr (.inr (1, 251)))), (29, .inr (.inr (.inl 0)))]
theorem gw_123_0 : gj_123_0 = gi_123_0.map (fun e => (e.1, s_op e.2.1)) := rfl
noncomputable def gj_123 : List (List (Nat × sOp)) := [gj_123_0]
theorem gw_123 : gj_123 = gi_123.map (fun ch => ch.map (fun e => (e.1, s_op e.2.1))) := by
  unfold gj_123 gi_123
  simp only [gw_123_0, List.map_cons, List.map_nil]
noncomputable def gj_124_0 : List (Nat × sOp) := [(0, .inl (s_x_aload_n 3)), (1, .inl (s_x_iconst 0)), (2, .inl (s_x_aload_n 0)), (3, .inl (s_x_iload_n 1)), (4, .inl (s_x_iload_n 2)), (5, .inr (.inr (.inr (1, 75)))), (8, .inr (.inl (s_sp_if, (s_x_ifCond .eq 7)))), (11, .inl (s_x_lconst 1)), (12, .inl (s_x_goto 4)), (15, .inl (s_x_lconst 0)), (16, .inl s_x_lastore), (17, .inl (s_x_goto 7)), (20, .inl (s_x_astore 4)), (22, .inl (s_x_iconst 1)), (23, .inr (.inr (.inl 0))), (24, .inl (s_x_iconst 0)), (25, .inr (.inr (.inl 0)))]
theorem gw_124_0 : gj_124_0 = gi_124_0.map (fun e => (e.1, s_op e.2.1)) := rfl
noncomputable def gj_124 : List (List (Nat × sOp)) := [gj_124_0]
theorem gw_124 : gj_124 = gi_124.map (fun ch => ch.map (fun e => (e.1, s_op e.2.1))) := by
  unfold gj_124 gi_124
  simp only [gw_124_0, List.map_cons, List.map_nil]
noncomputable def gj_125_0 : List (Nat × sOp) := [(0, .inl (s_x_aload_n 0)), (1, .inl (s_x_aload_n 0)), (2, .inl (s_x_iload_n 1)), (3, .inr (.inr (.inr (1, 57)))), (6, .inr (.inl (s_sp_if, (s_x_ifCond .eq 15)))), (9, .inl (s_x_aload_n 0)), (10, .inl (s_x_iload_n 2)), (11, .inr (.inr (.inr (1, 57)))), (14, .inr (.inl (s_sp_if, (s_x_ifCond .eq 7)))), (17, .inl (s_x_iconst 0)), (18, .inl (s_x_goto 4)), (21, .inl (s_x_iconst 1)), (22, .inl (s_x_putfield 23)), (25, .inl (s_x_aload_n 0)), (26, .inl (s_x_getfield 23)), (29, .inr (.inl (s_sp_if, (s_x_ifCond .ne 35))))]
theorem gw_125_0 : gj_125_0 = gi_125_0.map (fun e => (e.1, s_op e.2.1)) := rfl
noncomputable def gj_125_1 : List (Nat × sOp) := [(32, .inl (s_x_aload_n 0)), (33, .inl (s_x_getfield 19)), (36, .inl (s_x_iload_n 1)), (37, .inl (s_x_aload_n 0)), (38, .inl (s_x_getfield 19)), (41, .inl (s_x_getfield 27)), (44, .inl (s_x_iload_n 1)), (45, .inr (.inr (.inr (1, 60)))), (48, .inl s_x_no), (51, .inl (s_x_iconst 2)), (52, .inr (.inl (s_sp_ia, s_x_iaload))), (53, .inl (s_x_iload_n 2)), (54, .inr (.inr (.inr (1, 127)))), (57, .inr (.inl (s_sp_if, (s_x_ifCond .eq 7)))), (60, .inl (s_x_iconst 1)), (61, .inl (s_x_goto 4))]
theorem gw_125_1 : gj_125_1 = gi_125_1.map (fun e => (e.1, s_op e.2.1)) := rfl
noncomputable def gj_125_2 : List (Nat × sOp) := [(64, .inl (s_x_iconst 0)), (65, .inr (.inr (.inl 0)))]
theorem gw_125_2 : gj_125_2 = gi_125_2.map (fun e => (e.1, s_op e.2.1)) := rfl
noncomputable def gj_125 : List (List (Nat × sOp)) := [gj_125_0, gj_125_1, gj_125_2]
theorem gw_125 : gj_125 = gi_125.map (fun ch => ch.map (fun e => (e.1, s_op e.2.1))) := by
  unfold gj_125 gi_125
  simp only [gw_125_0, gw_125_1, gw_125_2, List.map_cons, List.map_nil]
noncomputable def gj_126_0 : List (Nat × sOp) := [(0, .inl (s_x_iconst 0)), (1, .inl (s_x_istore_n 1)), (2, .inl (s_x_iconst 0)), (3, .inl (s_x_istore_n 2)), (4, .inl (s_x_iload_n 2)), (5, .inl (s_x_aload_n 0)), (6, .inl (s_x_getfield 37)), (9, .inr (.inl (s_sp_ic, (s_x_if_icmp .ge 27)))), (12, .inl (s_x_aload_n 0)), (13, .inl (s_x_getfield 23)), (16, .inl (s_x_iload_n 2)), (17, .inl s_x_aaload), (18, .inl (s_x_getfield 93)), (21, .inr (.inl (s_sp_if, (s_x_ifCond .eq 9)))), (24, .inl (s_x_iload_n 1)), (25, .inl (s_x_iconst 1)), (26, .inl (s_x_iload_n 2)), (27, .inl s_x_ishl), (28, .inl s_x_ior), (29, .inl (s_x_istore_n 1)), (30, .inl (s_x_iinc 2 1))]
theorem gw_126_0 : gj_126_0 = gi_126_0.map (fun e => (e.1, s_op e.2.1)) := rfl
noncomputable def gj_126_1 : List (Nat × sOp) := [(33, .inl (s_x_goto (-29))), (36, .inl (s_x_iload_n 1)), (37, .inr (.inr (.inl 0)))]
theorem gw_126_1 : gj_126_1 = gi_126_1.map (fun e => (e.1, s_op e.2.1)) := rfl
noncomputable def gj_126 : List (List (Nat × sOp)) := [gj_126_0, gj_126_1]
theorem gw_126 : gj_126 = gi_126.map (fun ch => ch.map (fun e => (e.1, s_op e.2.1))) := by
  unfold gj_126 gi_126
  simp only [gw_126_0, gw_126_1, List.map_cons, List.map_nil]
noncomputable def gj_127_0 : List (Nat × sOp) := [(0, .inl (s_x_iload_n 1)), (1, .inr (.inl (s_sp_ts 0 16, s_x_tableswitch 212 0 15 #[79, 87, 95, 100, 108, 116, 124, 140, 148, 156, 164, 172, 180, 188, 196, 204])))]
theorem gw_127_0 : gj_127_0 = gi_127_0.map (fun e => (e.1, s_op e.2.1)) := rfl
noncomputable def gj_127_1 : List (Nat × sOp) := []
theorem gw_127_1 : gj_127_1 = gi_127_1.map (fun e => (e.1, s_op e.2.1)) := rfl
noncomputable def gj_127_2 : List (Nat × sOp) := [(80, .inl (s_x_aload_n 0)), (81, .inl (s_x_getfield 10)), (84, .inl (s_x_getfield 212)), (87, .inr (.inr (.inl 0))), (88, .inl (s_x_aload_n 0)), (89, .inl (s_x_getfield 10)), (92, .inl (s_x_getfield 37)), (95, .inr (.inr (.inl 0)))]
theorem gw_127_2 : gj_127_2 = gi_127_2.map (fun e => (e.1, s_op e.2.1)) := rfl
noncomputable def gj_127_3 : List (Nat × sOp) := [(96, .inl (s_x_aload_n 0)), (97, .inl (s_x_getfield 68)), (100, .inr (.inr (.inl 0))), (101, .inl (s_x_aload_n 0)), (102, .inl (s_x_getfield 10)), (105, .inl (s_x_getfield 84)), (108, .inr (.inr (.inl 0))), (109, .inl (s_x_aload_n 0)), (110, .inl (s_x_getfield 10)), (113, .inl (s_x_getfield 148)), (116, .inr (.inr (.inl 0))), (117, .inl (s_x_aload_n 0)), (118, .inl (s_x_getfield 10)), (121, .inl (s_x_getfield 112)), (124, .inr (.inr (.inl 0))), (125, .inl (s_x_aload_n 0)), (126, .inl (s_x_getfield 10))]
theorem gw_127_3 : gj_127_3 = gi_127_3.map (fun e => (e.1, s_op e.2.1)) := rfl
noncomputable def gj_127_4 : List (Nat × sOp) := [(129, .inl (s_x_getfield 198)), (132, .inr (.inl (s_sp_if, (s_x_ifCond .eq 7)))), (135, .inl (s_x_iconst 1)), (136, .inl (s_x_goto 4)), (139, .inl (s_x_iconst 0)), (140, .inr (.inr (.inl 0))), (141, .inl (s_x_aload_n 0)), (142, .inl (s_x_getfield 10)), (145, .inl (s_x_getfield 255)), (148, .inr (.inr (.inl 0))), (149, .inl (s_x_aload_n 0)), (150, .inl (s_x_getfield 10)), (153, .inr (.inr (.inr (1, 201)))), (156, .inr (.inr (.inl 0))), (157, .inl (s_x_aload_n 0)), (158, .inl (s_x_getfield 10))]
theorem gw_127_4 : gj_127_4 = gi_127_4.map (fun e => (e.1, s_op e.2.1)) := rfl
noncomputable def gj_127_5 : List (Nat × sOp) := [(161, .inl (s_x_getfield 258)), (164, .inr (.inr (.inl 0))), (165, .inl (s_x_aload_n 0)), (166, .inl (s_x_getfield 10)), (169, .inl (s_x_getfield 261)), (172, .inr (.inr (.inl 0))), (173, .inl (s_x_aload_n 0)), (174, .inl (s_x_getfield 10)), (177, .inl (s_x_getfield 264)), (180, .inr (.inr (.inl 0))), (181, .inl (s_x_aload_n 0)), (182, .inl (s_x_getfield 10)), (185, .inl (s_x_getfield 267)), (188, .inr (.inr (.inl 0))), (189, .inl (s_x_aload_n 0)), (190, .inl (s_x_getfield 10))]
theorem gw_127_5 : gj_127_5 = gi_127_5.map (fun e => (e.1, s_op e.2.1)) := rfl
noncomputable def gj_127_6 : List (Nat × sOp) := [(193, .inl (s_x_getfield 270)), (196, .inr (.inr (.inl 0))), (197, .inl (s_x_aload_n 0)), (198, .inl (s_x_getfield 10)), (201, .inl (s_x_getfield 273)), (204, .inr (.inr (.inl 0))), (205, .inl (s_x_aload_n 0)), (206, .inl (s_x_getfield 10)), (209, .inr (.inr (.inr (1, 274)))), (212, .inr (.inr (.inl 0))), (213, .inl (s_x_new 30)), (216, .inl s_x_dup), (217, .inl s_x_no), (220, .inr (.inr (.inr (2, 34)))), (223, .inl s_x_no)]
theorem gw_127_6 : gj_127_6 = gi_127_6.map (fun e => (e.1, s_op e.2.1)) := rfl
noncomputable def gj_127 : List (List (Nat × sOp)) := [gj_127_0, gj_127_1, gj_127_2, gj_127_3, gj_127_4, gj_127_5, gj_127_6]
theorem gw_127 : gj_127 = gi_127.map (fun ch => ch.map (fun e => (e.1, s_op e.2.1))) := by
  unfold gj_127 gi_127
  simp only [gw_127_0, gw_127_1, gw_127_2, gw_127_3, gw_127_4, gw_127_5, gw_127_6, List.map_cons, List.map_nil]
noncomputable def gj_128_0 : List (Nat × sOp) := [(0, .inl (s_x_aload_n 2)), (1, .inl (s_x_iconst 0)), (2, .inl (s_x_aload_n 0)), (3, .inl (s_x_iload_n 1)), (4, .inr (.inr (.inr (1, 79)))), (7, .inl s_x_i2l), (8, .inl s_x_lastore), (9, .inl (s_x_goto 6)), (12, .inl (s_x_astore_n 3)), (13, .inl (s_x_iconst 1)), (14, .inr (.inr (.inl 0))), (15, .inl (s_x_iconst 0)), (16, .inr (.inr (.inl 0)))]
theorem gw_128_0 : gj_128_0 = gi_128_0.map (fun e => (e.1, s_op e.2.1)) := rfl
noncomputable def gj_128 : List (List (Nat × sOp)) := [gj_128_0]
theorem gw_128 : gj_128 = gi_128.map (fun ch => ch.map (fun e => (e.1, s_op e.2.1))) := by
  unfold gj_128 gi_128
  simp only [gw_128_0, List.map_cons, List.map_nil]
noncomputable def gj_129_0 : List (Nat × sOp) := [(0, .inl (s_x_iconst 0)), (1, .inl (s_x_istore_n 2)), (2, .inl (s_x_iconst 0)), (3, .inl (s_x_istore_n 3)), (4, .inl (s_x_iload_n 3)), (5, .inl (s_x_aload_n 0)), (6, .inl (s_x_getfield 19)), (9, .inl (s_x_getfield 27)), (12, .inr (.inr (.inr (1, 30)))), (15, .inr (.inl (s_sp_ic, (s_x_if_icmp .ge 31)))), (18, .inl (s_x_iload_n 2)), (19, .inl (s_x_aload_n 0)), (20, .inl (s_x_getfield 19)), (23, .inl (s_x_getfield 27)), (26, .inl (s_x_iload_n 3)), (27, .inr (.inr (.inr (1, 60)))), (30, .inl s_x_no)]
theorem gw_129_0 : gj_129_0 = gi_129_0.map (fun e => (e.1, s_op e.2.1)) := rfl
noncomputable def gj_129_1 : List (Nat × sOp) := [(33, .inl (s_x_bipush 6)), (35, .inr (.inl (s_sp_ia, s_x_iaload))), (36, .inl (s_x_iload_n 3)), (37, .inl s_x_ishl), (38, .inl s_x_ior), (39, .inl (s_x_istore_n 2)), (40, .inl (s_x_iinc 3 1)), (43, .inl (s_x_goto (-39))), (46, .inl (s_x_bipush 16)), (48, .inl (s_x_newarray .int)), (50, .inl s_x_dup), (51, .inl (s_x_iconst 0)), (52, .inl (s_x_aload_n 0)), (53, .inl (s_x_getfield 19)), (56, .inl (s_x_getfield 118)), (59, .inl s_x_iastore), (60, .inl s_x_dup), (61, .inl (s_x_iconst 1)), (62, .inl (s_x_aload_n 0)), (63, .inl (s_x_getfield 19))]
theorem gw_129_1 : gj_129_1 = gi_129_1.map (fun e => (e.1, s_op e.2.1)) := rfl
noncomputable def gj_129_2 : List (Nat × sOp) := [(66, .inl (s_x_getfield 27)), (69, .inr (.inr (.inr (1, 30)))), (72, .inl s_x_iastore), (73, .inl s_x_dup), (74, .inl (s_x_iconst 2)), (75, .inl (s_x_aload_n 0)), (76, .inl (s_x_getfield 10)), (79, .inr (.inr (.inr (1, 30)))), (82, .inl s_x_iastore), (83, .inl s_x_dup), (84, .inl (s_x_iconst 3)), (85, .inl (s_x_aload_n 0)), (86, .inl (s_x_getfield 19)), (89, .inl (s_x_getfield 38)), (92, .inr (.inr (.inr (1, 30)))), (95, .inl s_x_iastore)]
theorem gw_129_2 : gj_129_2 = gi_129_2.map (fun e => (e.1, s_op e.2.1)) := rfl
noncomputable def gj_129_3 : List (Nat × sOp) := [(96, .inl s_x_dup), (97, .inl (s_x_iconst 4)), (98, .inl (s_x_aload_n 0)), (99, .inl (s_x_getfield 19)), (102, .inl (s_x_getfield 82)), (105, .inl s_x_iastore), (106, .inl s_x_dup), (107, .inl (s_x_iconst 5)), (108, .inl (s_x_aload_n 0)), (109, .inl (s_x_getfield 19)), (112, .inl (s_x_getfield 64)), (115, .inl s_x_iastore), (116, .inl s_x_dup), (117, .inl (s_x_bipush 6)), (119, .inl (s_x_aload_n 0)), (120, .inl (s_x_getfield 19)), (123, .inl (s_x_getfield 108)), (126, .inr (.inl (s_sp_if, (s_x_ifCond .eq 7))))]
theorem gw_129_3 : gj_129_3 = gi_129_3.map (fun e => (e.1, s_op e.2.1)) := rfl
noncomputable def gj_129_4 : List (Nat × sOp) := [(129, .inl (s_x_iconst 1)), (130, .inl (s_x_goto 4)), (133, .inl (s_x_iconst 0)), (134, .inl s_x_iastore), (135, .inl s_x_dup), (136, .inl (s_x_bipush 7)), (138, .inl (s_x_aload_n 0)), (139, .inl (s_x_getfield 19)), (142, .inl (s_x_getfield 130)), (145, .inl s_x_iastore), (146, .inl s_x_dup), (147, .inl (s_x_bipush 8)), (149, .inl (s_x_aload_n 0)), (150, .inl (s_x_getfield 19)), (153, .inr (.inr (.inr (1, 112)))), (156, .inl s_x_iastore), (157, .inl s_x_dup), (158, .inl (s_x_bipush 9))]
theorem gw_129_4 : gj_129_4 = gi_129_4.map (fun e => (e.1, s_op e.2.1)) := rfl
noncomputable def gj_129_5 : List (Nat × sOp) := [(160, .inl (s_x_aload_n 0)), (161, .inl (s_x_getfield 19)), (164, .inl (s_x_getfield 133)), (167, .inl s_x_iastore), (168, .inl s_x_dup), (169, .inl (s_x_bipush 10)), (171, .inl (s_x_aload_n 0)), (172, .inl (s_x_getfield 19)), (175, .inl (s_x_getfield 136)), (178, .inl s_x_iastore), (179, .inl s_x_dup), (180, .inl (s_x_bipush 11)), (182, .inl (s_x_aload_n 0)), (183, .inl (s_x_getfield 19)), (186, .inl (s_x_getfield 139)), (189, .inl s_x_iastore), (190, .inl s_x_dup), (191, .inl (s_x_bipush 12))]
theorem gw_129_5 : gj_129_5 = gi_129_5.map (fun e => (e.1, s_op e.2.1)) := rfl
noncomputable def gj_129_6 : List (Nat × sOp) := [(193, .inl (s_x_aload_n 0)), (194, .inl (s_x_getfield 19)), (197, .inl (s_x_getfield 142)), (200, .inl s_x_iastore), (201, .inl s_x_dup), (202, .inl (s_x_bipush 13)), (204, .inl (s_x_aload_n 0)), (205, .inl (s_x_getfield 19)), (208, .inl (s_x_getfield 145)), (211, .inl s_x_iastore), (212, .inl s_x_dup), (213, .inl (s_x_bipush 14)), (215, .inl (s_x_aload_n 0)), (216, .inl (s_x_getfield 19)), (219, .inl (s_x_getfield 148)), (222, .inl s_x_iastore), (223, .inl s_x_dup)]
theorem gw_129_6 : gj_129_6 = gi_129_6.map (fun e => (e.1, s_op e.2.1)) := rfl
noncomputable def gj_129_7 : List (Nat × sOp) := [(224, .inl (s_x_bipush 15)), (226, .inl (s_x_iload_n 2)), (227, .inl s_x_iastore), (228, .inl (s_x_astore_n 3)), (229, .inl (s_x_aload_n 3)), (230, .inl (s_x_iload_n 1)), (231, .inr (.inl (s_sp_ia, s_x_iaload))), (232, .inr (.inr (.inl 0)))]
theorem gw_129_7 : gj_129_7 = gi_129_7.map (fun e => (e.1, s_op e.2.1)) := rfl
noncomputable def gj_129 : List (List (Nat × sOp)) := [gj_129_0, gj_129_1, gj_129_2, gj_129_3, gj_129_4, gj_129_5, gj_129_6, gj_129_7]
theorem gw_129 : gj_129 = gi_129.map (fun ch => ch.map (fun e => (e.1, s_op e.2.1))) := by
  unfold gj_129 gi_129
  simp only [gw_129_0, gw_129_1, gw_129_2, gw_129_3, gw_129_4, gw_129_5, gw_129_6, gw_129_7, List.map_cons, List.map_nil]
noncomputable def gj_130_0 : List (Nat × sOp) := [(0, .inl (s_x_aload_n 0)), (1, .inl (s_x_iconst 0)), (2, .inl (s_x_putfield 23)), (5, .inl (s_x_iload_n 1)), (6, .inl (s_x_iconst 0)), (7, .inl (s_x_bipush 15)), (9, .inr (.inr (.inr (0, 34)))), (12, .inr (.inl (s_sp_if, (s_x_ifCond .eq 11)))), (15, .inl (s_x_aload_n 0)), (16, .inl (s_x_iload_n 1)), (17, .inr (.inr (.inr (1, 151)))), (20, .inl (s_x_goto 8)), (23, .inl (s_x_aload_n 0)), (24, .inl (s_x_iconst 1)), (25, .inr (.inr (.inr (1, 41)))), (28, .inr (.inr (.inl 0)))]
theorem gw_130_0 : gj_130_0 = gi_130_0.map (fun e => (e.1, s_op e.2.1)) := rfl
noncomputable def gj_130 : List (List (Nat × sOp)) := [gj_130_0]
theorem gw_130 : gj_130 = gi_130.map (fun ch => ch.map (fun e => (e.1, s_op e.2.1))) := by
  unfold gj_130 gi_130
  simp only [gw_130_0, List.map_cons, List.map_nil]
noncomputable def gj_131_0 : List (Nat × sOp) := [(0, .inl (s_x_aload_n 0)), (1, .inl (s_x_getfield 10)), (4, .inl (s_x_getfield 37)), (7, .inr (.inl (s_sp_if, (s_x_ifCond .ne 5)))), (10, .inl (s_x_dconst 0)), (11, .inr (.inr (.inl 2))), (12, .inl (s_x_iconst 0)), (13, .inl (s_x_istore_n 1)), (14, .inl (s_x_iconst 0)), (15, .inl (s_x_istore_n 2)), (16, .inl (s_x_iload_n 2)), (17, .inl (s_x_aload_n 0)), (18, .inl (s_x_getfield 10)), (21, .inl (s_x_getfield 37)), (24, .inr (.inl (s_sp_ic, (s_x_if_icmp .ge 24)))), (27, .inl (s_x_iload_n 1)), (28, .inl (s_x_aload_n 0)), (29, .inl (s_x_getfield 10))]
theorem gw_131_0 : gj_131_0 = gi_131_0.map (fun e => (e.1, s_op e.2.1)) := rfl
noncomputable def gj_131_1 : List (Nat × sOp) := [(32, .inl (s_x_getfield 46)), (35, .inl (s_x_iload_n 2)), (36, .inl s_x_aaload), (37, .inl (s_x_getfield 223)), (40, .inl s_x_iadd), (41, .inl (s_x_istore_n 1)), (42, .inl (s_x_iinc 2 1)), (45, .inl (s_x_goto (-29))), (48, .inl (s_x_iload_n 1)), (49, .inl s_x_no), (50, .inl (s_x_aload_n 0)), (51, .inl (s_x_getfield 10)), (54, .inl (s_x_getfield 37)), (57, .inl s_x_no), (58, .inl s_x_no), (59, .inr (.inr (.inl 2)))]
theorem gw_131_1 : gj_131_1 = gi_131_1.map (fun e => (e.1, s_op e.2.1)) := rfl
noncomputable def gj_131 : List (List (Nat × sOp)) := [gj_131_0, gj_131_1]
theorem gw_131 : gj_131 = gi_131.map (fun ch => ch.map (fun e => (e.1, s_op e.2.1))) := by
  unfold gj_131 gi_131
  simp only [gw_131_0, gw_131_1, List.map_cons, List.map_nil]
noncomputable def gj_132_0 : List (Nat × sOp) := [(0, .inl (s_x_aload_n 0)), (1, .inl (s_x_getfield 48)), (4, .inr (.inl (s_sp_if, (s_x_ifCond .ne 7)))), (7, .inl (s_x_iconst 1)), (8, .inl (s_x_goto 4)), (11, .inl (s_x_iconst 0)), (12, .inr (.inr (.inl 0)))]
theorem gw_132_0 : gj_132_0 = gi_132_0.map (fun e => (e.1, s_op e.2.1)) := rfl
noncomputable def gj_132 : List (List (Nat × sOp)) := [gj_132_0]
theorem gw_132 : gj_132 = gi_132.map (fun ch => ch.map (fun e => (e.1, s_op e.2.1))) := by
  unfold gj_132 gi_132
  simp only [gw_132_0, List.map_cons, List.map_nil]
noncomputable def gj_133_0 : List (Nat × sOp) := [(0, .inl (s_x_aload_n 0)), (1, .inl (s_x_iconst 0)), (2, .inl (s_x_putfield 23)), (5, .inl (s_x_iconst 0)), (6, .inl (s_x_istore_n 1)), (7, .inl (s_x_aload_n 0)), (8, .inl (s_x_getfield 19)), (11, .inl (s_x_getfield 27)), (14, .inr (.inr (.inr (1, 67)))), (17, .inl (s_x_astore_n 2)), (18, .inl (s_x_aload_n 2)), (19, .inr (.inr (.inr (3, 71)))), (24, .inr (.inl (s_sp_if, (s_x_ifCond .eq 22)))), (27, .inl (s_x_aload_n 2)), (28, .inr (.inr (.inr (3, 77))))]
theorem gw_133_0 : gj_133_0 = gi_133_0.map (fun e => (e.1, s_op e.2.1)) := rfl
noncomputable def gj_133_1 : List (Nat × sOp) := [(33, .inl s_x_no), (36, .inl (s_x_astore_n 3)), (37, .inl (s_x_iload_n 1)), (38, .inl (s_x_aload_n 3)), (39, .inl (s_x_iconst 2)), (40, .inr (.inl (s_sp_ia, s_x_iaload))), (41, .inl s_x_iadd), (42, .inl (s_x_istore_n 1)), (43, .inl (s_x_goto (-25))), (46, .inl (s_x_aload_n 0)), (47, .inl (s_x_getfield 19)), (50, .inl (s_x_getfield 27)), (53, .inr (.inr (.inr (1, 154)))), (56, .inr (.inl (s_sp_if, (s_x_ifCond .eq 7)))), (59, .inl (s_x_dconst 0)), (60, .inl (s_x_goto 17)), (63, .inl (s_x_iload_n 1))]
theorem gw_133_1 : gj_133_1 = gi_133_1.map (fun e => (e.1, s_op e.2.1)) := rfl
noncomputable def gj_133_2 : List (Nat × sOp) := [(64, .inl s_x_no), (65, .inl (s_x_aload_n 0)), (66, .inl (s_x_getfield 19)), (69, .inl (s_x_getfield 27)), (72, .inr (.inr (.inr (1, 30)))), (75, .inl s_x_no), (76, .inl s_x_no), (77, .inr (.inr (.inl 2)))]
theorem gw_133_2 : gj_133_2 = gi_133_2.map (fun e => (e.1, s_op e.2.1)) := rfl
noncomputable def gj_133 : List (List (Nat × sOp)) := [gj_133_0, gj_133_1, gj_133_2]
theorem gw_133 : gj_133 = gi_133.map (fun ch => ch.map (fun e => (e.1, s_op e.2.1))) := by
  unfold gj_133 gi_133
  simp only [gw_133_0, gw_133_1, gw_133_2, List.map_cons, List.map_nil]
noncomputable def gj_134_0 : List (Nat × sOp) := [(0, .inl (s_x_aload_n 0)), (1, .inl (s_x_aload_n 1)), (2, .inl (s_x_getfield 17)), (5, .inl (s_x_putfield 17)), (8, .inl (s_x_aload_n 0)), (9, .inl (s_x_aload_n 1)), (10, .inl (s_x_getfield 20)), (13, .inl (s_x_putfield 20)), (16, .inl (s_x_aload_n 0)), (17, .inl (s_x_aload_n 1)), (18, .inl (s_x_getfield 23)), (21, .inl (s_x_putfield 23)), (24, .inl (s_x_aload_n 0)), (25, .inl (s_x_aload_n 1)), (26, .inl (s_x_getfield 26)), (29, .inl (s_x_putfield 26))]
theorem gw_134_0 : gj_134_0 = gi_134_0.map (fun e => (e.1, s_op e.2.1)) := rfl
noncomputable def gj_134_1 : List (Nat × sOp) := [(32, .inl (s_x_aload_n 0)), (33, .inl (s_x_aload_n 1)), (34, .inl (s_x_getfield 29)), (37, .inl (s_x_putfield 29)), (40, .inl (s_x_aload_n 0)), (41, .inl (s_x_aload_n 1)), (42, .inl (s_x_getfield 32)), (45, .inl (s_x_putfield 32)), (48, .inl (s_x_aload_n 0)), (49, .inl (s_x_aload_n 1)), (50, .inl (s_x_getfield 35)), (53, .inl (s_x_putfield 35)), (56, .inl (s_x_aload_n 0)), (57, .inl (s_x_aload_n 1)), (58, .inl (s_x_getfield 38)), (61, .inl (s_x_putfield 38))]
theorem gw_134_1 : gj_134_1 = gi_134_1.map (fun e => (e.1, s_op e.2.1)) := rfl
noncomputable def gj_134_2 : List (Nat × sOp) := [(64, .inl (s_x_aload_n 0)), (65, .inl (s_x_aload_n 1)), (66, .inl (s_x_getfield 7)), (69, .inl (s_x_putfield 7)), (72, .inl (s_x_aload_n 0)), (73, .inl (s_x_aload_n 1)), (74, .inl (s_x_getfield 41)), (77, .inl (s_x_putfield 41)), (80, .inl (s_x_aload_n 0)), (81, .inl (s_x_aload_n 1)), (82, .inl (s_x_getfield 44)), (85, .inl (s_x_putfield 44)), (88, .inl (s_x_aload_n 0)), (89, .inl (s_x_aload_n 1)), (90, .inl (s_x_getfield 47)), (93, .inl (s_x_putfield 47))]
theorem gw_134_2 : gj_134_2 = gi_134_2.map (fun e => (e.1, s_op e.2.1)) := rfl
noncomputable def gj_134_3 : List (Nat × sOp) := [(96, .inr (.inr (.inl 4)))]
theorem gw_134_3 : gj_134_3 = gi_134_3.map (fun e => (e.1, s_op e.2.1)) := rfl
noncomputable def gj_134 : List (List (Nat × sOp)) := [gj_134_0, gj_134_1, gj_134_2, gj_134_3]
theorem gw_134 : gj_134 = gi_134.map (fun ch => ch.map (fun e => (e.1, s_op e.2.1))) := by
  unfold gj_134 gi_134
  simp only [gw_134_0, gw_134_1, gw_134_2, gw_134_3, List.map_cons, List.map_nil]
noncomputable def gj_135_0 : List (Nat × sOp) := [(0, .inl (s_x_aload_n 0)), (1, .inl (s_x_aload_n 1)), (2, .inl (s_x_getfield 15)), (5, .inl (s_x_putfield 15)), (8, .inl (s_x_aload_n 0)), (9, .inl (s_x_aload_n 1)), (10, .inl (s_x_getfield 18)), (13, .inl (s_x_putfield 18)), (16, .inl (s_x_aload_n 0)), (17, .inl (s_x_aload_n 1)), (18, .inl (s_x_getfield 21)), (21, .inl (s_x_putfield 21)), (24, .inl (s_x_aload_n 0)), (25, .inl (s_x_aload_n 1)), (26, .inl (s_x_getfield 24)), (29, .inl (s_x_putfield 24))]
theorem gw_135_0 : gj_135_0 = gi_135_0.map (fun e => (e.1, s_op e.2.1)) := rfl
noncomputable def gj_135_1 : List (Nat × sOp) := [(32, .inl (s_x_aload_n 0)), (33, .inl (s_x_aload_n 1)), (34, .inl (s_x_getfield 9)), (37, .inl (s_x_putfield 9)), (40, .inl (s_x_aload_n 0)), (41, .inl (s_x_aload_n 1)), (42, .inl (s_x_getfield 27)), (45, .inl (s_x_putfield 27)), (48, .inr (.inr (.inl 4)))]
theorem gw_135_1 : gj_135_1 = gi_135_1.map (fun e => (e.1, s_op e.2.1)) := rfl
noncomputable def gj_135 : List (List (Nat × sOp)) := [gj_135_0, gj_135_1]
theorem gw_135 : gj_135 = gi_135.map (fun ch => ch.map (fun e => (e.1, s_op e.2.1))) := by
  unfold gj_135 gi_135
  simp only [gw_135_0, gw_135_1, List.map_cons, List.map_nil]
noncomputable def gj_136_0 : List (Nat × sOp) := [(0, .inl (s_x_aload_n 0)), (1, .inl (s_x_aload_n 1)), (2, .inl (s_x_getfield 9)), (5, .inl (s_x_putfield 9)), (8, .inl (s_x_aload_n 0)), (9, .inl (s_x_aload_n 1)), (10, .inl (s_x_getfield 22)), (13, .inl (s_x_putfield 22)), (16, .inl (s_x_iconst 0)), (17, .inl (s_x_istore_n 2)), (18, .inl (s_x_iload_n 2)), (19, .inl (s_x_aload_n 0)), (20, .inl (s_x_getfield 22)), (23, .inr (.inl (s_sp_ic, (s_x_if_icmp .ge 24)))), (26, .inl (s_x_aload_n 0)), (27, .inl (s_x_getfield 17)), (30, .inl (s_x_iload_n 2)), (31, .inl s_x_aaload)]
theorem gw_136_0 : gj_136_0 = gi_136_0.map (fun e => (e.1, s_op e.2.1)) := rfl
noncomputable def gj_136_1 : List (Nat × sOp) := [(32, .inl (s_x_aload_n 1)), (33, .inl (s_x_getfield 17)), (36, .inl (s_x_iload_n 2)), (37, .inl s_x_aaload), (38, .inr (.inr (.inr (1, 25)))), (41, .inl (s_x_iinc 2 1)), (44, .inl (s_x_goto (-26))), (47, .inr (.inr (.inl 4)))]
theorem gw_136_1 : gj_136_1 = gi_136_1.map (fun e => (e.1, s_op e.2.1)) := rfl
noncomputable def gj_136 : List (List (Nat × sOp)) := [gj_136_0, gj_136_1]
theorem gw_136 : gj_136 = gi_136.map (fun ch => ch.map (fun e => (e.1, s_op e.2.1))) := by
  unfold gj_136 gi_136
  simp only [gw_136_0, gw_136_1, List.map_cons, List.map_nil]
noncomputable def gj_137_0 : List (Nat × sOp) := [(0, .inl (s_x_aload_n 0)), (1, .inl (s_x_aload_n 1)), (2, .inl (s_x_getfield 37)), (5, .inl (s_x_putfield 37)), (8, .inl (s_x_iconst 0)), (9, .inl (s_x_istore_n 2)), (10, .inl (s_x_iload_n 2)), (11, .inl (s_x_aload_n 0)), (12, .inl (s_x_getfield 37)), (15, .inr (.inl (s_sp_ic, (s_x_if_icmp .ge 24)))), (18, .inl (s_x_aload_n 0)), (19, .inl (s_x_getfield 23)), (22, .inl (s_x_iload_n 2)), (23, .inl s_x_aaload), (24, .inl (s_x_aload_n 1)), (25, .inl (s_x_getfield 23)), (28, .inl (s_x_iload_n 2)), (29, .inl s_x_aaload), (30, .inr (.inr (.inr (1, 40))))]
theorem gw_137_0 : gj_137_0 = gi_137_0.map (fun e => (e.1, s_op e.2.1)) := rfl
noncomputable def gj_137_1 : List (Nat × sOp) := [(33, .inl (s_x_iinc 2 1)), (36, .inl (s_x_goto (-26))), (39, .inl (s_x_aload_n 0)), (40, .inl (s_x_aload_n 1)), (41, .inl (s_x_getfield 44)), (44, .inl (s_x_putfield 44)), (47, .inl (s_x_iconst 0)), (48, .inl (s_x_istore_n 2)), (49, .inl (s_x_iload_n 2)), (50, .inl (s_x_aload_n 0)), (51, .inl (s_x_getfield 44)), (54, .inr (.inl (s_sp_ic, (s_x_if_icmp .ge 24)))), (57, .inl (s_x_aload_n 0)), (58, .inl (s_x_getfield 32)), (61, .inl (s_x_iload_n 2)), (62, .inl s_x_aaload), (63, .inl (s_x_aload_n 1))]
theorem gw_137_1 : gj_137_1 = gi_137_1.map (fun e => (e.1, s_op e.2.1)) := rfl
noncomputable def gj_137_2 : List (Nat × sOp) := [(64, .inl (s_x_getfield 32)), (67, .inl (s_x_iload_n 2)), (68, .inl s_x_aaload), (69, .inr (.inr (.inr (1, 47)))), (72, .inl (s_x_iinc 2 1)), (75, .inl (s_x_goto (-26))), (78, .inl (s_x_aload_n 0)), (79, .inl (s_x_aload_n 1)), (80, .inl (s_x_getfield 9)), (83, .inl (s_x_putfield 9)), (86, .inl (s_x_aload_n 0)), (87, .inl (s_x_aload_n 1)), (88, .inl (s_x_getfield 50)), (91, .inl (s_x_putfield 50)), (94, .inl (s_x_aload_n 0)), (95, .inl (s_x_aload_n 1))]
theorem gw_137_2 : gj_137_2 = gi_137_2.map (fun e => (e.1, s_op e.2.1)) := rfl
noncomputable def gj_137_3 : List (Nat × sOp) := [(96, .inl (s_x_getfield 53)), (99, .inl (s_x_putfield 53)), (102, .inl (s_x_aload_n 0)), (103, .inl (s_x_aload_n 1)), (104, .inl (s_x_getfield 15)), (107, .inl (s_x_putfield 15)), (110, .inl (s_x_aload_n 0)), (111, .inl (s_x_aload_n 1)), (112, .inl (s_x_getfield 56)), (115, .inl (s_x_putfield 56)), (118, .inl (s_x_aload_n 0)), (119, .inl (s_x_aload_n 1)), (120, .inl (s_x_getfield 60)), (123, .inl (s_x_putfield 60)), (126, .inl (s_x_aload_n 0)), (127, .inl (s_x_aload_n 1))]
theorem gw_137_3 : gj_137_3 = gi_137_3.map (fun e => (e.1, s_op e.2.1)) := rfl
noncomputable def gj_137_4 : List (Nat × sOp) := [(128, .inl (s_x_getfield 63)), (131, .inl (s_x_putfield 63)), (134, .inl (s_x_aload_n 0)), (135, .inl (s_x_aload_n 1)), (136, .inl (s_x_getfield 66)), (139, .inl (s_x_putfield 66)), (142, .inl (s_x_aload_n 0)), (143, .inl (s_x_aload_n 1)), (144, .inl (s_x_getfield 69)), (147, .inl (s_x_putfield 69)), (150, .inl (s_x_aload_n 0)), (151, .inl (s_x_aload_n 1)), (152, .inl (s_x_getfield 72)), (155, .inl (s_x_putfield 72)), (158, .inl (s_x_aload_n 0)), (159, .inl (s_x_aload_n 1))]
theorem gw_137_4 : gj_137_4 = gi_137_4.map (fun e => (e.1, s_op e.2.1)) := rfl
noncomputable def gj_137_5 : List (Nat × sOp) := [(160, .inl (s_x_getfield 75)), (163, .inl (s_x_putfield 75)), (166, .inl (s_x_aload_n 0)), (167, .inl (s_x_aload_n 1)), (168, .inl (s_x_getfield 78)), (171, .inl (s_x_putfield 78)), (174, .inl (s_x_aload_n 0)), (175, .inl (s_x_aload_n 1)), (176, .inl (s_x_getfield 81)), (179, .inl (s_x_putfield 81)), (182, .inl (s_x_aload_n 0)), (183, .inl (s_x_iconst (-1))), (184, .inl (s_x_putfield 18)), (187, .inr (.inr (.inl 4)))]
theorem gw_137_5 : gj_137_5 = gi_137_5.map (fun e => (e.1, s_op e.2.1)) := rfl
noncomputable def gj_137 : List (List (Nat × sOp)) := [gj_137_0, gj_137_1, gj_137_2, gj_137_3, gj_137_4, gj_137_5]
theorem gw_137 : gj_137 = gi_137.map (fun ch => ch.map (fun e => (e.1, s_op e.2.1))) := by
  unfold gj_137 gi_137
  simp only [gw_137_0, gw_137_1, gw_137_2, gw_137_3, gw_137_4, gw_137_5, List.map_cons, List.map_nil]
noncomputable def gj_138_0 : List (Nat × sOp) := [(0, .inl (s_x_iconst 0)), (1, .inl (s_x_istore_n 1)), (2, .inl (s_x_iload_n 1)), (3, .inl (s_x_aload_n 0)), (4, .inl (s_x_getfield 37)), (7, .inr (.inl (s_sp_ic, (s_x_if_icmp .ge 19)))), (10, .inl (s_x_aload_n 0)), (11, .inl (s_x_getfield 23)), (14, .inl (s_x_iload_n 1)), (15, .inl s_x_aaload), (16, .inl (s_x_iconst 0)), (17, .inl (s_x_putfield 93)), (20, .inl (s_x_iinc 1 1)), (23, .inl (s_x_goto (-21))), (26, .inr (.inr (.inl 4)))]
theorem gw_138_0 : gj_138_0 = gi_138_0.map (fun e => (e.1, s_op e.2.1)) := rfl
noncomputable def gj_138 : List (List (Nat × sOp)) := [gj_138_0]
theorem gw_138 : gj_138 = gi_138.map (fun ch => ch.map (fun e => (e.1, s_op e.2.1))) := by
  unfold gj_138 gi_138
  simp only [gw_138_0, List.map_cons, List.map_nil]
noncomputable def gj_139_0 : List (Nat × sOp) := [(0, .inl (s_x_aload_n 0)), (1, .inl (s_x_getfield 16)), (4, .inl (s_x_aload_n 0)), (5, .inl (s_x_getfield 10)), (8, .inr (.inr (.inr (1, 288)))), (11, .inl (s_x_aload_n 0)), (12, .inl (s_x_getfield 16)), (15, .inr (.inr (.inr (1, 343)))), (18, .inl (s_x_aload_n 0)), (19, .inl (s_x_getfield 16)), (22, .inl (s_x_iload_n 1)), (23, .inr (.inr (.inr (1, 191)))), (26, .inl (s_x_iconst 1)), (27, .inl (s_x_istore_n 2)), (28, .inl (s_x_iload_n 2)), (29, .inl (s_x_sipush 200))]
theorem gw_139_0 : gj_139_0 = gi_139_0.map (fun e => (e.1, s_op e.2.1)) := rfl
noncomputable def gj_139_1 : List (Nat × sOp) := [(32, .inr (.inl (s_sp_ic, (s_x_if_icmp .gt 47)))), (35, .inl (s_x_aload_n 0)), (36, .inl (s_x_getfield 16)), (39, .inr (.inr (.inr (1, 220)))), (42, .inl (s_x_aload_n 0)), (43, .inl (s_x_getfield 16)), (46, .inl (s_x_getfield 198)), (49, .inr (.inl (s_sp_if, (s_x_ifCond .eq 5)))), (52, .inl (s_x_iconst (-1))), (53, .inr (.inr (.inl 0))), (54, .inl (s_x_aload_n 0)), (55, .inl (s_x_getfield 16)), (58, .inl (s_x_getfield 258)), (61, .inl (s_x_aload_n 0)), (62, .inl (s_x_getfield 10))]
theorem gw_139_1 : gj_139_1 = gi_139_1.map (fun e => (e.1, s_op e.2.1)) := rfl
noncomputable def gj_139_2 : List (Nat × sOp) := [(65, .inl (s_x_getfield 258)), (68, .inr (.inl (s_sp_ic, (s_x_if_icmp .eq 5)))), (71, .inl (s_x_iload_n 2)), (72, .inr (.inr (.inl 0))), (73, .inl (s_x_iinc 2 1)), (76, .inl (s_x_goto (-48))), (79, .inl (s_x_iconst (-1))), (80, .inr (.inr (.inl 0)))]
theorem gw_139_2 : gj_139_2 = gi_139_2.map (fun e => (e.1, s_op e.2.1)) := rfl
noncomputable def gj_139 : List (List (Nat × sOp)) := [gj_139_0, gj_139_1, gj_139_2]
theorem gw_139 : gj_139 = gi_139.map (fun ch => ch.map (fun e => (e.1, s_op e.2.1))) := by
  unfold gj_139 gi_139
  simp only [gw_139_0, gw_139_1, gw_139_2, List.map_cons, List.map_nil]
noncomputable def gj_140_0 : List (Nat × sOp) := [(0, .inl (s_x_aload_n 0)), (1, .inl (s_x_iload_n 1)), (2, .inr (.inr (.inr (1, 279)))), (5, .inr (.inr (.inl 0)))]
theorem gw_140_0 : gj_140_0 = gi_140_0.map (fun e => (e.1, s_op e.2.1)) := rfl
noncomputable def gj_140 : List (List (Nat × sOp)) := [gj_140_0]
theorem gw_140 : gj_140 = gi_140.map (fun ch => ch.map (fun e => (e.1, s_op e.2.1))) := by
  unfold gj_140 gi_140
  simp only [gw_140_0, List.map_cons, List.map_nil]
noncomputable def gj_141_0 : List (Nat × sOp) := [(0, .inl (s_x_aload_n 2)), (1, .inl (s_x_iconst 0)), (2, .inl (s_x_aload_n 0)), (3, .inl (s_x_iload_n 1)), (4, .inr (.inr (.inr (1, 82)))), (7, .inl s_x_i2l), (8, .inl s_x_lastore), (9, .inl (s_x_goto 6)), (12, .inl (s_x_astore_n 3)), (13, .inl (s_x_iconst 1)), (14, .inr (.inr (.inl 0))), (15, .inl (s_x_iconst 0)), (16, .inr (.inr (.inl 0)))]
theorem gw_141_0 : gj_141_0 = gi_141_0.map (fun e => (e.1, s_op e.2.1)) := rfl
noncomputable def gj_141 : List (List (Nat × sOp)) := [gj_141_0]
theorem gw_141 : gj_141 = gi_141.map (fun ch => ch.map (fun e => (e.1, s_op e.2.1))) := by
  unfold gj_141 gi_141
  simp only [gw_141_0, List.map_cons, List.map_nil]
noncomputable def gj_142_0 : List (Nat × sOp) := [(0, .inl (s_x_new 13)), (3, .inl s_x_dup), (4, .inr (.inr (.inr (2, 35)))), (7, .inl (s_x_astore_n 1)), (8, .inl (s_x_aload_n 0)), (9, .inl (s_x_getfield 12)), (12, .inr (.inr (.inr (1, 36)))), (15, .inl (s_x_astore_n 2)), (16, .inl (s_x_aload_n 2)), (17, .inr (.inr (.inr (3, 40)))), (22, .inr (.inl (s_sp_if, (s_x_ifCond .eq 31)))), (25, .inl (s_x_aload_n 2)), (26, .inr (.inr (.inr (3, 46)))), (31, .inl s_x_no)]
theorem gw_142_0 : gj_142_0 = gi_142_0.map (fun e => (e.1, s_op e.2.1)) := rfl
noncomputable def gj_142_1 : List (Nat × sOp) := [(34, .inl (s_x_astore_n 3)), (35, .inl (s_x_aload_n 1)), (36, .inl (s_x_getfield 12)), (39, .inl (s_x_aload_n 3)), (40, .inr (.inr (.inr (1, 51)))), (43, .inl s_x_no), (46, .inr (.inr (.inr (1, 54)))), (49, .inl s_x_pop), (50, .inl (s_x_goto (-34))), (53, .inl (s_x_aload_n 0)), (54, .inl (s_x_getfield 18)), (57, .inr (.inr (.inr (1, 36)))), (60, .inl (s_x_astore_n 2)), (61, .inl (s_x_aload_n 2)), (62, .inr (.inr (.inr (3, 40))))]
theorem gw_142_1 : gj_142_1 = gi_142_1.map (fun e => (e.1, s_op e.2.1)) := rfl
noncomputable def gj_142_2 : List (Nat × sOp) := [(67, .inr (.inl (s_sp_if, (s_x_ifCond .eq 80)))), (70, .inl (s_x_aload_n 2)), (71, .inr (.inr (.inr (3, 46)))), (76, .inl s_x_no), (79, .inl (s_x_astore_n 3)), (80, .inl (s_x_new 9)), (83, .inl s_x_dup), (84, .inr (.inr (.inr (2, 11)))), (87, .inl (s_x_astore 4)), (89, .inl (s_x_aload_n 3)), (90, .inr (.inr (.inr (1, 36)))), (93, .inl (s_x_astore 5)), (95, .inl (s_x_aload 5))]
theorem gw_142_2 : gj_142_2 = gi_142_2.map (fun e => (e.1, s_op e.2.1)) := rfl
noncomputable def gj_142_3 : List (Nat × sOp) := [(97, .inr (.inr (.inr (3, 40)))), (102, .inr (.inl (s_sp_if, (s_x_ifCond .eq 32)))), (105, .inl (s_x_aload 5)), (107, .inr (.inr (.inr (3, 46)))), (112, .inl s_x_no), (115, .inl (s_x_astore 6)), (117, .inl (s_x_aload 4)), (119, .inl (s_x_aload 6)), (121, .inr (.inr (.inr (1, 51)))), (124, .inl s_x_no), (127, .inr (.inr (.inr (1, 54))))]
theorem gw_142_3 : gj_142_3 = gi_142_3.map (fun e => (e.1, s_op e.2.1)) := rfl
noncomputable def gj_142_4 : List (Nat × sOp) := [(130, .inl s_x_pop), (131, .inl (s_x_goto (-36))), (134, .inl (s_x_aload_n 1)), (135, .inl (s_x_getfield 18)), (138, .inl (s_x_aload 4)), (140, .inr (.inr (.inr (1, 54)))), (143, .inl s_x_pop), (144, .inl (s_x_goto (-83))), (147, .inl (s_x_aload_n 0)), (148, .inl (s_x_getfield 21)), (151, .inl (s_x_iconst 0)), (152, .inl (s_x_aload_n 1)), (153, .inl (s_x_getfield 21)), (156, .inl (s_x_iconst 0)), (157, .inl (s_x_bipush 6)), (159, .inr (.inr (.inr (0, 58))))]
theorem gw_142_4 : gj_142_4 = gi_142_4.map (fun e => (e.1, s_op e.2.1)) := rfl
noncomputable def gj_142_5 : List (Nat × sOp) := [(162, .inl (s_x_aload_n 1)), (163, .inl (s_x_aload_n 0)), (164, .inl (s_x_getfield 25)), (167, .inl (s_x_putfield 25)), (170, .inl (s_x_aload_n 1)), (171, .inl (s_x_aload_n 0)), (172, .inl (s_x_getfield 29)), (175, .inl (s_x_putfield 29)), (178, .inl (s_x_aload_n 1)), (179, .inl (s_x_aload_n 0)), (180, .inl (s_x_getfield 64)), (183, .inl (s_x_putfield 64)), (186, .inl (s_x_aload_n 1)), (187, .inl (s_x_aload_n 0)), (188, .inl (s_x_getfield 68)), (191, .inl (s_x_putfield 68))]
theorem gw_142_5 : gj_142_5 = gi_142_5.map (fun e => (e.1, s_op e.2.1)) := rfl
noncomputable def gj_142_6 : List (Nat × sOp) := [(194, .inl (s_x_aload_n 1)), (195, .inr (.inr (.inl 3)))]
theorem gw_142_6 : gj_142_6 = gi_142_6.map (fun e => (e.1, s_op e.2.1)) := rfl
noncomputable def gj_142 : List (List (Nat × sOp)) := [gj_142_0, gj_142_1, gj_142_2, gj_142_3, gj_142_4, gj_142_5, gj_142_6]
theorem gw_142 : gj_142 = gi_142.map (fun ch => ch.map (fun e => (e.1, s_op e.2.1))) := by
  unfold gj_142 gi_142
  simp only [gw_142_0, gw_142_1, gw_142_2, gw_142_3, gw_142_4, gw_142_5, gw_142_6, List.map_cons, List.map_nil]
noncomputable def gj_143_0 : List (Nat × sOp) := [(0, .inl (s_x_aload_n 0)), (1, .inl (s_x_getfield 19)), (4, .inr (.inr (.inr (1, 157)))), (7, .inl (s_x_astore_n 2)), (8, .inl (s_x_aload_n 2)), (9, .inl (s_x_getfield 27)), (12, .inr (.inr (.inr (1, 67)))), (15, .inl (s_x_astore_n 3)), (16, .inl (s_x_aload_n 3)), (17, .inr (.inr (.inr (3, 71)))), (22, .inr (.inl (s_sp_if, (s_x_ifCond .eq 23)))), (25, .inl (s_x_aload_n 3)), (26, .inr (.inr (.inr (3, 77)))), (31, .inl s_x_no)]
theorem gw_143_0 : gj_143_0 = gi_143_0.map (fun e => (e.1, s_op e.2.1)) := rfl
noncomputable def gj_143_1 : List (Nat × sOp) := [(34, .inl (s_x_astore 4)), (36, .inl (s_x_aload 4)), (38, .inl (s_x_bipush 6)), (40, .inl (s_x_iconst 0)), (41, .inl s_x_iastore), (42, .inl (s_x_goto (-26))), (45, .inl (s_x_aload_n 2)), (46, .inl (s_x_iload_n 1)), (47, .inr (.inr (.inr (1, 105)))), (50, .inl (s_x_aload_n 2)), (51, .inl (s_x_getfield 118)), (54, .inl (s_x_sipush 200)), (57, .inr (.inl (s_sp_ic, (s_x_if_icmp .ge 25)))), (60, .inl (s_x_aload_n 2)), (61, .inl (s_x_getfield 133))]
theorem gw_143_1 : gj_143_1 = gi_143_1.map (fun e => (e.1, s_op e.2.1)) := rfl
noncomputable def gj_143_2 : List (Nat × sOp) := [(64, .inr (.inl (s_sp_if, (s_x_ifCond .ne 18)))), (67, .inl (s_x_aload_n 2)), (68, .inl (s_x_getfield 108)), (71, .inr (.inl (s_sp_if, (s_x_ifCond .ne 11)))), (74, .inl (s_x_aload_n 2)), (75, .inr (.inr (.inr (1, 121)))), (78, .inl s_x_pop), (79, .inl (s_x_goto (-29))), (82, .inl (s_x_aload_n 2)), (83, .inr (.inr (.inl 3)))]
theorem gw_143_2 : gj_143_2 = gi_143_2.map (fun e => (e.1, s_op e.2.1)) := rfl
noncomputable def gj_143 : List (List (Nat × sOp)) := [gj_143_0, gj_143_1, gj_143_2]
theorem gw_143 : gj_143 = gi_143.map (fun ch => ch.map (fun e => (e.1, s_op e.2.1))) := by
  unfold gj_143 gi_143
  simp only [gw_143_0, gw_143_1, gw_143_2, List.map_cons, List.map_nil]
noncomputable def gj_144_0 : List (Nat × sOp) := [(0, .inl (s_x_aload_n 0)), (1, .inl (s_x_iload_n 1)), (2, .inr (.inr (.inr (1, 161)))), (5, .inl (s_x_astore_n 2)), (6, .inl (s_x_aload_n 2)), (7, .inl (s_x_getfield 133)), (10, .inr (.inl (s_sp_if, (s_x_ifCond .le 18)))), (13, .inl (s_x_aload_n 2)), (14, .inl (s_x_getfield 165)), (17, .inl (s_x_iconst (-1))), (18, .inr (.inl (s_sp_ic, (s_x_if_icmp .ne 10)))), (21, .inl (s_x_aload_n 2)), (22, .inl (s_x_getfield 118)), (25, .inl (s_x_goto 4)), (28, .inl (s_x_iconst (-1))), (29, .inr (.inr (.inl 0)))]
theorem gw_144_0 : gj_144_0 = gi_144_0.map (fun e => (e.1, s_op e.2.1)) := rfl
noncomputable def gj_144 : List (List (Nat × sOp)) := [gj_144_0]
theorem gw_144 : gj_144 = gi_144.map (fun ch => ch.map (fun e => (e.1, s_op e.2.1))) := by
  unfold gj_144 gi_144
  simp only [gw_144_0, List.map_cons, List.map_nil]
noncomputable def gj_145_0 : List (Nat × sOp) := [(0, .inl (s_x_aload_n 0)), (1, .inl (s_x_iconst 0)), (2, .inl (s_x_putfield 23)), (5, .inl (s_x_aload_n 0)), (6, .inl (s_x_iload_n 1)), (7, .inr (.inr (.inr (1, 53)))), (10, .inr (.inl (s_sp_if, (s_x_ifCond .eq 11)))), (13, .inl (s_x_aload_n 0)), (14, .inl (s_x_iload_n 1)), (15, .inr (.inr (.inr (1, 168)))), (18, .inl (s_x_goto 8)), (21, .inl (s_x_aload_n 0)), (22, .inl (s_x_iconst 1)), (23, .inr (.inr (.inr (1, 41)))), (26, .inr (.inr (.inl 0)))]
theorem gw_145_0 : gj_145_0 = gi_145_0.map (fun e => (e.1, s_op e.2.1)) := rfl
noncomputable def gj_145 : List (List (Nat × sOp)) := [gj_145_0]
theorem gw_145 : gj_145 = gi_145.map (fun ch => ch.map (fun e => (e.1, s_op e.2.1))) := by
  unfold gj_145 gi_145
  simp only [gw_145_0, List.map_cons, List.map_nil]
noncomputable def gj_146_0 : List (Nat × sOp) := [(0, .inl (s_x_aload_n 0)), (1, .inl (s_x_iload_n 1)), (2, .inr (.inr (.inr (1, 279)))), (5, .inl s_x_pop), (6, .inl (s_x_aload_n 0)), (7, .inl (s_x_getfield 16)), (10, .inl (s_x_getfield 283)), (13, .inr (.inr (.inl 0)))]
theorem gw_146_0 : gj_146_0 = gi_146_0.map (fun e => (e.1, s_op e.2.1)) := rfl
noncomputable def gj_146 : List (List (Nat × sOp)) := [gj_146_0]
theorem gw_146 : gj_146 = gi_146.map (fun ch => ch.map (fun e => (e.1, s_op e.2.1))) := by
  unfold gj_146 gi_146
  simp only [gw_146_0, List.map_cons, List.map_nil]
noncomputable def gj_147_0 : List (Nat × sOp) := [(0, .inl (s_x_aload_n 2)), (1, .inl (s_x_iconst 0)), (2, .inl (s_x_aload_n 0)), (3, .inl (s_x_iload_n 1)), (4, .inr (.inr (.inr (1, 85)))), (7, .inl s_x_i2l), (8, .inl s_x_lastore), (9, .inl (s_x_goto 6)), (12, .inl (s_x_astore_n 3)), (13, .inl (s_x_iconst 1)), (14, .inr (.inr (.inl 0))), (15, .inl (s_x_iconst 0)), (16, .inr (.inr (.inl 0)))]
theorem gw_147_0 : gj_147_0 = gi_147_0.map (fun e => (e.1, s_op e.2.1)) := rfl
noncomputable def gj_147 : List (List (Nat × sOp)) := [gj_147_0]
theorem gw_147 : gj_147 = gi_147.map (fun ch => ch.map (fun e => (e.1, s_op e.2.1))) := by
  unfold gj_147 gi_147
  simp only [gw_147_0, List.map_cons, List.map_nil]
noncomputable def gj_148_0 : List (Nat × sOp) := [(0, .inl (s_x_aload_n 0)), (1, .inl (s_x_iconst 0)), (2, .inl (s_x_putfield 23)), (5, .inl (s_x_aload_n 0)), (6, .inl (s_x_iload_n 1)), (7, .inr (.inr (.inr (1, 53)))), (10, .inr (.inl (s_sp_if, (s_x_ifCond .eq 14)))), (13, .inl (s_x_aload_n 0)), (14, .inl (s_x_iload_n 1)), (15, .inr (.inr (.inr (1, 161)))), (18, .inl (s_x_getfield 165)), (21, .inl (s_x_goto 8)), (24, .inl (s_x_aload_n 0)), (25, .inl (s_x_iconst 1)), (26, .inr (.inr (.inr (1, 41)))), (29, .inr (.inr (.inl 0)))]
theorem gw_148_0 : gj_148_0 = gi_148_0.map (fun e => (e.1, s_op e.2.1)) := rfl
noncomputable def gj_148 : List (List (Nat × sOp)) := [gj_148_0]
theorem gw_148 : gj_148 = gi_148.map (fun ch => ch.map (fun e => (e.1, s_op e.2.1))) := by
  unfold gj_148 gi_148
  simp only [gw_148_0, List.map_cons, List.map_nil]
noncomputable def gj_149_0 : List (Nat × sOp) := [(0, .inl (s_x_iload_n 1)), (1, .inl (s_x_iconst 1)), (2, .inr (.inl (s_sp_ic, (s_x_if_icmp .lt 9)))), (5, .inl (s_x_iload_n 1)), (6, .inl (s_x_bipush 60)), (8, .inr (.inl (s_sp_ic, (s_x_if_icmp .le 14)))), (11, .inl (s_x_new 30)), (14, .inl s_x_dup), (15, .inl s_x_no), (18, .inr (.inr (.inr (2, 34)))), (21, .inl s_x_no), (22, .inl (s_x_aload_n 0)), (23, .inl (s_x_getfield 16)), (26, .inl (s_x_aload_n 0)), (27, .inl (s_x_getfield 10)), (30, .inr (.inr (.inr (1, 288))))]
theorem gw_149_0 : gj_149_0 = gi_149_0.map (fun e => (e.1, s_op e.2.1)) := rfl
noncomputable def gj_149_1 : List (Nat × sOp) := [(33, .inl (s_x_iconst 0)), (34, .inl (s_x_istore_n 2)), (35, .inl (s_x_iload_n 2)), (36, .inl (s_x_iload_n 1)), (37, .inr (.inl (s_sp_ic, (s_x_if_icmp .ge 16)))), (40, .inl (s_x_aload_n 0)), (41, .inl (s_x_getfield 16)), (44, .inr (.inr (.inr (1, 220)))), (47, .inl (s_x_iinc 2 1)), (50, .inl (s_x_goto (-15))), (53, .inl (s_x_aload_n 0)), (54, .inl (s_x_getfield 16)), (57, .inl (s_x_getfield 270)), (60, .inl (s_x_aload_n 0)), (61, .inl (s_x_getfield 10))]
theorem gw_149_1 : gj_149_1 = gi_149_1.map (fun e => (e.1, s_op e.2.1)) := rfl
noncomputable def gj_149_2 : List (Nat × sOp) := [(64, .inl (s_x_getfield 270)), (67, .inl s_x_isub), (68, .inr (.inr (.inl 0)))]
theorem gw_149_2 : gj_149_2 = gi_149_2.map (fun e => (e.1, s_op e.2.1)) := rfl
noncomputable def gj_149 : List (List (Nat × sOp)) := [gj_149_0, gj_149_1, gj_149_2]
theorem gw_149 : gj_149 = gi_149.map (fun ch => ch.map (fun e => (e.1, s_op e.2.1))) := by
  unfold gj_149 gi_149
  simp only [gw_149_0, gw_149_1, gw_149_2, List.map_cons, List.map_nil]
noncomputable def gj_150_0 : List (Nat × sOp) := [(0, .inl (s_x_aload_n 2)), (1, .inl (s_x_iconst 0)), (2, .inl (s_x_aload_n 0)), (3, .inl (s_x_iload_n 1)), (4, .inr (.inr (.inr (1, 88)))), (7, .inl s_x_i2l), (8, .inl s_x_lastore), (9, .inl (s_x_goto 6)), (12, .inl (s_x_astore_n 3)), (13, .inl (s_x_iconst 1)), (14, .inr (.inr (.inl 0))), (15, .inl (s_x_iconst 0)), (16, .inr (.inr (.inl 0)))]
theorem gw_150_0 : gj_150_0 = gi_150_0.map (fun e => (e.1, s_op e.2.1)) := rfl
noncomputable def gj_150 : List (List (Nat × sOp)) := [gj_150_0]
theorem gw_150 : gj_150 = gi_150.map (fun ch => ch.map (fun e => (e.1, s_op e.2.1))) := by
  unfold gj_150 gi_150
  simp only [gw_150_0, List.map_cons, List.map_nil]
noncomputable def gj_151_0 : List (Nat × sOp) := [(0, .inl (s_x_aload_n 0)), (1, .inl (s_x_getfield 19)), (4, .inr (.inr (.inr (1, 157)))), (7, .inl (s_x_astore_n 2)), (8, .inl (s_x_iconst 0)), (9, .inl (s_x_istore_n 3)), (10, .inl (s_x_iload_n 3)), (11, .inl (s_x_iload_n 1)), (12, .inr (.inl (s_sp_ic, (s_x_if_icmp .ge 14)))), (15, .inl (s_x_aload_n 2)), (16, .inr (.inr (.inr (1, 121)))), (19, .inl s_x_pop), (20, .inl (s_x_iinc 3 1)), (23, .inl (s_x_goto (-13))), (26, .inl (s_x_aload_n 2)), (27, .inl (s_x_getfield 145)), (30, .inr (.inr (.inl 0)))]
theorem gw_151_0 : gj_151_0 = gi_151_0.map (fun e => (e.1, s_op e.2.1)) := rfl
noncomputable def gj_151 : List (List (Nat × sOp)) := [gj_151_0]
theorem gw_151 : gj_151 = gi_151.map (fun ch => ch.map (fun e => (e.1, s_op e.2.1))) := by
  unfold gj_151 gi_151
  simp only [gw_151_0, List.map_cons, List.map_nil]
noncomputable def gj_152_0 : List (Nat × sOp) := [(0, .inl (s_x_aload_n 0)), (1, .inl (s_x_iconst 0)), (2, .inl (s_x_putfield 23)), (5, .inl (s_x_iload_n 1)), (6, .inl (s_x_iconst 1)), (7, .inl (s_x_bipush 60)), (9, .inr (.inr (.inr (0, 34)))), (12, .inr (.inl (s_sp_if, (s_x_ifCond .eq 11)))), (15, .inl (s_x_aload_n 0)), (16, .inl (s_x_iload_n 1)), (17, .inr (.inr (.inr (1, 171)))), (20, .inl (s_x_goto 8)), (23, .inl (s_x_aload_n 0)), (24, .inl (s_x_iconst 1)), (25, .inr (.inr (.inr (1, 41)))), (28, .inr (.inr (.inl 0)))]
theorem gw_152_0 : gj_152_0 = gi_152_0.map (fun e => (e.1, s_op e.2.1)) := rfl
noncomputable def gj_152 : List (List (Nat × sOp)) := [gj_152_0]
theorem gw_152 : gj_152 = gi_152.map (fun ch => ch.map (fun e => (e.1, s_op e.2.1))) := by
  unfold gj_152 gi_152
  simp only [gw_152_0, List.map_cons, List.map_nil]
noncomputable def gj_153_0 : List (Nat × sOp) := [(0, .inl (s_x_iload_n 0)), (1, .inl (s_x_iload_n 1)), (2, .inl s_x_ishr), (3, .inl (s_x_iconst 1)), (4, .inl s_x_iand), (5, .inl (s_x_iconst 1)), (6, .inr (.inl (s_sp_ic, (s_x_if_icmp .ne 7)))), (9, .inl (s_x_iconst 1)), (10, .inl (s_x_goto 4)), (13, .inl (s_x_iconst 0)), (14, .inr (.inr (.inl 0)))]
theorem gw_153_0 : gj_153_0 = gi_153_0.map (fun e => (e.1, s_op e.2.1)) := rfl
noncomputable def gj_153 : List (List (Nat × sOp)) := [gj_153_0]
theorem gw_153 : gj_153 = gi_153.map (fun ch => ch.map (fun e => (e.1, s_op e.2.1))) := by
  unfold gj_153 gi_153
  simp only [gw_153_0, List.map_cons, List.map_nil]
noncomputable def gj_154_0 : List (Nat × sOp) := [(0, .inl (s_x_iconst 0)), (1, .inl (s_x_istore 4)), (3, .inl (s_x_iload 4)), (5, .inl (s_x_iload_n 1)), (6, .inr (.inl (s_sp_ic, (s_x_if_icmp .ge 56)))), (9, .inl (s_x_aload_n 0)), (10, .inl (s_x_getfield 21)), (13, .inl (s_x_iload 4)), (15, .inl s_x_aaload), (16, .inl (s_x_getfield 79)), (19, .inl (s_x_aload_n 0)), (20, .inl (s_x_getfield 21)), (23, .inl (s_x_iload_n 1)), (24, .inl s_x_aaload), (25, .inl (s_x_getfield 79)), (28, .inl s_x_iadd), (29, .inl (s_x_istore 5)), (31, .inl (s_x_iload_n 3))]
theorem gw_154_0 : gj_154_0 = gi_154_0.map (fun e => (e.1, s_op e.2.1)) := rfl
noncomputable def gj_154_1 : List (Nat × sOp) := [(32, .inl (s_x_iload 4)), (34, .inr (.inr (.inr (0, 294)))), (37, .inr (.inl (s_sp_if, (s_x_ifCond .eq 19)))), (40, .inl (s_x_iload_n 2)), (41, .inl (s_x_aload_n 0)), (42, .inl (s_x_getfield 26)), (45, .inl (s_x_iload 4)), (47, .inr (.inl (s_sp_ia, s_x_iaload))), (48, .inl s_x_isub), (49, .inl (s_x_iload 5)), (51, .inr (.inl (s_sp_ic, (s_x_if_icmp .gt 5)))), (54, .inl (s_x_iconst 0)), (55, .inr (.inr (.inl 0))), (56, .inl (s_x_iinc 4 1)), (59, .inl (s_x_goto (-56))), (62, .inl (s_x_iconst 1)), (63, .inr (.inr (.inl 0)))]
theorem gw_154_1 : gj_154_1 = gi_154_1.map (fun e => (e.1, s_op e.2.1)) := rfl
noncomputable def gj_154 : List (List (Nat × sOp)) := [gj_154_0, gj_154_1]
theorem gw_154 : gj_154 = gi_154.map (fun ch => ch.map (fun e => (e.1, s_op e.2.1))) := by
  unfold gj_154 gi_154
  simp only [gw_154_0, gw_154_1, List.map_cons, List.map_nil]
