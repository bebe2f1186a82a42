noncomputable def gj_62_0 : List (Nat × sOp) := [(0, .inl (s_x_aload_n 0)), (1, .inl (s_x_iload_n 1)), (2, .inr (.inr (.inr (1, 157)))), (5, .inl (s_x_astore_n 2)), (6, .inl (s_x_aload_n 2)), (7, .inl (s_x_getfield 161)), (10, .inl (s_x_iconst (-1))), (11, .inr (.inl (s_sp_ic, (s_x_if_icmp .ne 13)))), (14, .inl (s_x_new 41)), (17, .inl s_x_dup), (18, .inl (s_x_ldc 176)), (20, .inr (.inr (.inr (2, 45)))), (23, .inl s_x_no), (24, .inl (s_x_aload_n 0)), (25, .inl (s_x_getfield 10)), (28, .inl (s_x_aload_n 2)), (29, .inl (s_x_getfield 161))]
theorem gw_62_0 : gj_62_0 = gi_62_0.map (fun e => (e.1, s_op e.2.1)) := rfl
noncomputable def gj_62_1 : List (Nat × sOp) := [(32, .inr (.inr (.inr (1, 102)))), (35, .inl (s_x_astore_n 3)), (36, .inl (s_x_aload_n 0)), (37, .inl (s_x_aload_n 3)), (38, .inr (.inr (.inr (1, 164)))), (41, .inl (s_x_aload_n 2)), (42, .inl (s_x_iconst (-1))), (43, .inl (s_x_putfield 161)), (46, .inl (s_x_aload_n 0)), (47, .inl (s_x_aload_n 3)), (48, .inr (.inr (.inr (1, 173)))), (51, .inl (s_x_aload_n 3)), (52, .inl (s_x_getfield 59)), (55, .inr (.inr (.inl 0)))]
theorem gw_62_1 : gj_62_1 = gi_62_1.map (fun e => (e.1, s_op e.2.1)) := rfl
noncomputable def gj_62 : List (List (Nat × sOp)) := [gj_62_0, gj_62_1]
theorem gw_62 : gj_62 = gi_62.map (fun ch => ch.map (fun e => (e.1, s_op e.2.1))) := by
  unfold gj_62 gi_62
  simp only [gw_62_0, gw_62_1, List.map_cons, List.map_nil]
noncomputable def gj_63_0 : List (Nat × sOp) := [(0, .inl (s_x_aload_n 2)), (1, .inl (s_x_iconst 0)), (2, .inl (s_x_aload_n 0)), (3, .inl (s_x_iload_n 1)), (4, .inr (.inr (.inr (1, 42)))), (7, .inl s_x_i2l), (8, .inl s_x_lastore), (9, .inl (s_x_goto 9)), (12, .inl (s_x_astore_n 3)), (13, .inl (s_x_iconst 1)), (14, .inr (.inr (.inl 0))), (15, .inl (s_x_astore_n 3)), (16, .inl (s_x_iconst 2)), (17, .inr (.inr (.inl 0))), (18, .inl (s_x_iconst 0)), (19, .inr (.inr (.inl 0)))]
theorem gw_63_0 : gj_63_0 = gi_63_0.map (fun e => (e.1, s_op e.2.1)) := rfl
noncomputable def gj_63 : List (List (Nat × sOp)) := [gj_63_0]
theorem gw_63 : gj_63 = gi_63.map (fun ch => ch.map (fun e => (e.1, s_op e.2.1))) := by
  unfold gj_63 gi_63
  simp only [gw_63_0, List.map_cons, List.map_nil]
noncomputable def gj_64_0 : List (Nat × sOp) := [(0, .inl (s_x_aload_n 0)), (1, .inl (s_x_iconst 0)), (2, .inl (s_x_putfield 23)), (5, .inl (s_x_aload_n 0)), (6, .inl (s_x_iload_n 1)), (7, .inr (.inr (.inr (1, 91)))), (10, .inr (.inl (s_sp_if, (s_x_ifCond .ne 9)))), (13, .inl (s_x_aload_n 0)), (14, .inl (s_x_iconst 1)), (15, .inr (.inr (.inr (1, 41)))), (18, .inr (.inr (.inl 0))), (19, .inl (s_x_aload_n 0)), (20, .inl (s_x_getfield 10)), (23, .inl (s_x_iload_n 1)), (24, .inr (.inr (.inr (1, 60)))), (27, .inl s_x_no), (30, .inl (s_x_iconst 3)), (31, .inr (.inl (s_sp_ia, s_x_iaload)))]
theorem gw_64_0 : gj_64_0 = gi_64_0.map (fun e => (e.1, s_op e.2.1)) := rfl
noncomputable def gj_64_1 : List (Nat × sOp) := [(32, .inl (s_x_istore_n 2)), (33, .inl (s_x_iload_n 2)), (34, .inl (s_x_iconst (-1))), (35, .inr (.inl (s_sp_ic, (s_x_if_icmp .eq 11)))), (38, .inl (s_x_aload_n 0)), (39, .inl (s_x_iload_n 2)), (40, .inr (.inr (.inr (1, 94)))), (43, .inr (.inl (s_sp_if, (s_x_ifCond .ne 9)))), (46, .inl (s_x_aload_n 0)), (47, .inl (s_x_iconst 2)), (48, .inr (.inr (.inr (1, 41)))), (51, .inr (.inr (.inl 0))), (52, .inl (s_x_aload_n 0)), (53, .inl (s_x_getfield 10)), (56, .inl (s_x_iload_n 1)), (57, .inr (.inr (.inr (1, 60)))), (60, .inl s_x_no), (63, .inl (s_x_iconst 3))]
theorem gw_64_1 : gj_64_1 = gi_64_1.map (fun e => (e.1, s_op e.2.1)) := rfl
noncomputable def gj_64_2 : List (Nat × sOp) := [(64, .inl (s_x_iconst (-1))), (65, .inl s_x_iastore), (66, .inl (s_x_aload_n 0)), (67, .inl (s_x_iload_n 2)), (68, .inr (.inr (.inr (1, 97)))), (71, .inl (s_x_iload_n 2)), (72, .inr (.inr (.inl 0)))]
theorem gw_64_2 : gj_64_2 = gi_64_2.map (fun e => (e.1, s_op e.2.1)) := rfl
noncomputable def gj_64 : List (List (Nat × sOp)) := [gj_64_0, gj_64_1, gj_64_2]
theorem gw_64 : gj_64 = gi_64.map (fun ch => ch.map (fun e => (e.1, s_op e.2.1))) := by
  unfold gj_64 gi_64
  simp only [gw_64_0, gw_64_1, gw_64_2, List.map_cons, List.map_nil]
noncomputable def gj_65_0 : List (Nat × sOp) := [(0, .inl (s_x_aload_n 0)), (1, .inl (s_x_getfield 17)), (4, .inr (.inl (s_sp_if, (s_x_ifCond .eq 7)))), (7, .inl (s_x_iconst 0)), (8, .inl (s_x_goto 12)), (11, .inl (s_x_aload_n 0)), (12, .inl (s_x_getfield 29)), (15, .inl (s_x_aload_n 0)), (16, .inl (s_x_getfield 26)), (19, .inl s_x_isub), (20, .inr (.inr (.inl 0)))]
theorem gw_65_0 : gj_65_0 = gi_65_0.map (fun e => (e.1, s_op e.2.1)) := rfl
noncomputable def gj_65 : List (List (Nat × sOp)) := [gj_65_0]
theorem gw_65 : gj_65 = gi_65.map (fun ch => ch.map (fun e => (e.1, s_op e.2.1))) := by
  unfold gj_65 gi_65
  simp only [gw_65_0, List.map_cons, List.map_nil]
noncomputable def gj_66_0 : List (Nat × sOp) := [(0, .inl (s_x_aload_n 0)), (1, .inl (s_x_getfield 10)), (4, .inl (s_x_iload_n 1)), (5, .inr (.inr (.inr (1, 102)))), (8, .inl (s_x_astore_n 3)), (9, .inl (s_x_iload_n 2)), (10, .inr (.inl (s_sp_if, (s_x_ifCond .lt 10)))), (13, .inl (s_x_iload_n 2)), (14, .inl (s_x_sipush 300)), (17, .inr (.inl (s_sp_ic, (s_x_if_icmp .le 13)))), (20, .inl (s_x_new 30)), (23, .inl s_x_dup), (24, .inl (s_x_ldc 178)), (26, .inr (.inr (.inr (2, 34)))), (29, .inl s_x_no), (30, .inl (s_x_aload_n 3)), (31, .inl (s_x_getfield 50))]
theorem gw_66_0 : gj_66_0 = gi_66_0.map (fun e => (e.1, s_op e.2.1)) := rfl
noncomputable def gj_66_1 : List (Nat × sOp) := [(34, .inr (.inl (s_sp_if, (s_x_ifCond .eq 13)))), (37, .inl (s_x_new 41)), (40, .inl s_x_dup), (41, .inl (s_x_ldc 180)), (43, .inr (.inr (.inr (2, 45)))), (46, .inl s_x_no), (47, .inl (s_x_aload_n 0)), (48, .inl (s_x_aload_n 3)), (49, .inr (.inr (.inr (1, 164)))), (52, .inl (s_x_aload_n 3)), (53, .inl (s_x_iload_n 2)), (54, .inl (s_x_putfield 182)), (57, .inl (s_x_aload_n 3)), (58, .inr (.inr (.inr (1, 185)))), (61, .inr (.inr (.inl 0)))]
theorem gw_66_1 : gj_66_1 = gi_66_1.map (fun e => (e.1, s_op e.2.1)) := rfl
noncomputable def gj_66 : List (List (Nat × sOp)) := [gj_66_0, gj_66_1]
theorem gw_66 : gj_66 = gi_66.map (fun ch => ch.map (fun e => (e.1, s_op e.2.1))) := by
  unfold gj_66 gi_66
  simp only [gw_66_0, gw_66_1, List.map_cons, List.map_nil]
noncomputable def gj_67_0 : List (Nat × sOp) := [(0, .inl (s_x_aload_n 3)), (1, .inl (s_x_iconst 0)), (2, .inl (s_x_aload_n 0)), (3, .inl (s_x_iload_n 1)), (4, .inl (s_x_iload_n 2)), (5, .inr (.inr (.inr (1, 45)))), (8, .inl s_x_i2l), (9, .inl s_x_lastore), (10, .inl (s_x_goto 15)), (13, .inl (s_x_astore 4)), (15, .inl (s_x_iconst 1)), (16, .inr (.inr (.inl 0))), (17, .inl (s_x_astore 4)), (19, .inl (s_x_iconst 2)), (20, .inr (.inr (.inl 0))), (21, .inl (s_x_astore 4)), (23, .inl (s_x_iconst 3)), (24, .inr (.inr (.inl 0))), (25, .inl (s_x_iconst 0)), (26, .inr (.inr (.inl 0)))]
theorem gw_67_0 : gj_67_0 = gi_67_0.map (fun e => (e.1, s_op e.2.1)) := rfl
noncomputable def gj_67 : List (List (Nat × sOp)) := [gj_67_0]
theorem gw_67 : gj_67 = gi_67.map (fun ch => ch.map (fun e => (e.1, s_op e.2.1))) := by
  unfold gj_67 gi_67
  simp only [gw_67_0, List.map_cons, List.map_nil]
noncomputable def gj_68_0 : List (Nat × sOp) := [(0, .inl (s_x_aload_n 0)), (1, .inl (s_x_iconst 0)), (2, .inr (.inl (s_sp_ia, s_x_iaload))), (3, .inl (s_x_iconst 1)), (4, .inr (.inl (s_sp_ic, (s_x_if_icmp .ne 7)))), (7, .inl (s_x_iconst 0)), (8, .inl (s_x_goto 11)), (11, .inl (s_x_aload_n 0)), (12, .inl (s_x_bipush 8)), (14, .inr (.inl (s_sp_ia, s_x_iaload))), (15, .inl (s_x_aload_n 0)), (16, .inl (s_x_iconst 3)), (17, .inr (.inl (s_sp_ia, s_x_iaload))), (18, .inl s_x_isub), (19, .inr (.inr (.inl 0)))]
theorem gw_68_0 : gj_68_0 = gi_68_0.map (fun e => (e.1, s_op e.2.1)) := rfl
noncomputable def gj_68 : List (List (Nat × sOp)) := [gj_68_0]
theorem gw_68 : gj_68 = gi_68.map (fun ch => ch.map (fun e => (e.1, s_op e.2.1))) := by
  unfold gj_68 gi_68
  simp only [gw_68_0, List.map_cons, List.map_nil]
noncomputable def gj_69_0 : List (Nat × sOp) := [(0, .inl (s_x_aload_n 0)), (1, .inl (s_x_iconst 0)), (2, .inl (s_x_putfield 23)), (5, .inl (s_x_aload_n 0)), (6, .inl (s_x_iload_n 1)), (7, .inr (.inr (.inr (1, 57)))), (10, .inr (.inl (s_sp_if, (s_x_ifCond .ne 9)))), (13, .inl (s_x_aload_n 0)), (14, .inl (s_x_iconst 1)), (15, .inr (.inr (.inr (1, 41)))), (18, .inr (.inr (.inl 0))), (19, .inl (s_x_iload_n 2)), (20, .inl (s_x_iconst 0)), (21, .inl (s_x_sipush 300)), (24, .inr (.inr (.inr (0, 34)))), (27, .inr (.inl (s_sp_if, (s_x_ifCond .ne 9)))), (30, .inl (s_x_aload_n 0)), (31, .inl (s_x_iconst 2))]
theorem gw_69_0 : gj_69_0 = gi_69_0.map (fun e => (e.1, s_op e.2.1)) := rfl
noncomputable def gj_69_1 : List (Nat × sOp) := [(32, .inr (.inr (.inr (1, 41)))), (35, .inr (.inr (.inl 0))), (36, .inl (s_x_aload_n 0)), (37, .inl (s_x_getfield 19)), (40, .inl (s_x_getfield 27)), (43, .inl (s_x_iload_n 1)), (44, .inr (.inr (.inr (1, 60)))), (47, .inl s_x_no), (50, .inl (s_x_astore_n 3)), (51, .inl (s_x_aload_n 3)), (52, .inl (s_x_iconst 0)), (53, .inr (.inl (s_sp_ia, s_x_iaload))), (54, .inl (s_x_iconst 1)), (55, .inr (.inl (s_sp_ic, (s_x_if_icmp .eq 11)))), (58, .inl (s_x_aload_n 0)), (59, .inl (s_x_iload_n 1)), (60, .inr (.inr (.inr (1, 94)))), (63, .inr (.inl (s_sp_if, (s_x_ifCond .ne 9))))]
theorem gw_69_1 : gj_69_1 = gi_69_1.map (fun e => (e.1, s_op e.2.1)) := rfl
noncomputable def gj_69_2 : List (Nat × sOp) := [(66, .inl (s_x_aload_n 0)), (67, .inl (s_x_iconst 3)), (68, .inr (.inr (.inr (1, 41)))), (71, .inr (.inr (.inl 0))), (72, .inl (s_x_aload_n 3)), (73, .inl (s_x_iconst 3)), (74, .inl (s_x_iload_n 2)), (75, .inl s_x_iastore), (76, .inl (s_x_aload_n 3)), (77, .inr (.inr (.inr (0, 101)))), (80, .inr (.inr (.inl 0)))]
theorem gw_69_2 : gj_69_2 = gi_69_2.map (fun e => (e.1, s_op e.2.1)) := rfl
noncomputable def gj_69 : List (List (Nat × sOp)) := [gj_69_0, gj_69_1, gj_69_2]
theorem gw_69 : gj_69 = gi_69.map (fun ch => ch.map (fun e => (e.1, s_op e.2.1))) := by
  unfold gj_69 gi_69
  simp only [gw_69_0, gw_69_1, gw_69_2, List.map_cons, List.map_nil]
noncomputable def gj_70_0 : List (Nat × sOp) := [(0, .inl (s_x_iconst 0)), (1, .inl (s_x_istore_n 1)), (2, .inl (s_x_iload_n 1)), (3, .inl (s_x_aload_n 0)), (4, .inl (s_x_getfield 22)), (7, .inr (.inl (s_sp_ic, (s_x_if_icmp .ge 29)))), (10, .inl (s_x_aload_n 0)), (11, .inl (s_x_getfield 17)), (14, .inl (s_x_iload_n 1)), (15, .inl s_x_aaload), (16, .inl (s_x_iconst 0)), (17, .inl (s_x_putfield 39)), (20, .inl (s_x_aload_n 0)), (21, .inl (s_x_getfield 17)), (24, .inl (s_x_iload_n 1)), (25, .inl s_x_aaload), (26, .inl (s_x_iconst 0)), (27, .inl (s_x_putfield 42)), (30, .inl (s_x_iinc 1 1))]
theorem gw_70_0 : gj_70_0 = gi_70_0.map (fun e => (e.1, s_op e.2.1)) := rfl
noncomputable def gj_70_1 : List (Nat × sOp) := [(33, .inl (s_x_goto (-31))), (36, .inr (.inr (.inl 4)))]
theorem gw_70_1 : gj_70_1 = gi_70_1.map (fun e => (e.1, s_op e.2.1)) := rfl
noncomputable def gj_70 : List (List (Nat × sOp)) := [gj_70_0, gj_70_1]
theorem gw_70 : gj_70 = gi_70.map (fun ch => ch.map (fun e => (e.1, s_op e.2.1))) := by
  unfold gj_70 gi_70
  simp only [gw_70_0, gw_70_1, List.map_cons, List.map_nil]
noncomputable def gj_71_0 : List (Nat × sOp) := [(0, .inl (s_x_aload_n 0)), (1, .inl (s_x_iload_n 1)), (2, .inr (.inr (.inr (1, 96)))), (5, .inr (.inr (.inr (1, 100)))), (8, .inl (s_x_aload_n 0)), (9, .inl (s_x_iload_n 1)), (10, .inl (s_x_putfield 15)), (13, .inl (s_x_aload_n 0)), (14, .inl (s_x_iconst 0)), (15, .inl (s_x_putfield 56)), (18, .inl (s_x_aload_n 0)), (19, .inl (s_x_iconst 0)), (20, .inl (s_x_putfield 60)), (23, .inr (.inr (.inl 4)))]
theorem gw_71_0 : gj_71_0 = gi_71_0.map (fun e => (e.1, s_op e.2.1)) := rfl
noncomputable def gj_71 : List (List (Nat × sOp)) := [gj_71_0]
theorem gw_71 : gj_71 = gi_71.map (fun ch => ch.map (fun e => (e.1, s_op e.2.1))) := by
  unfold gj_71 gi_71
  simp only [gw_71_0, List.map_cons, List.map_nil]
noncomputable def gj_72_0 : List (Nat × sOp) := [(0, .inl (s_x_aload_n 0)), (1, .inl (s_x_getfield 10)), (4, .inl (s_x_iload_n 1)), (5, .inr (.inr (.inr (1, 98)))), (8, .inl (s_x_astore_n 2)), (9, .inl (s_x_aload_n 0)), (10, .inl (s_x_getfield 10)), (13, .inl (s_x_getfield 112)), (16, .inl (s_x_iconst (-1))), (17, .inr (.inl (s_sp_ic, (s_x_if_icmp .eq 13)))), (20, .inl (s_x_new 41)), (23, .inl s_x_dup), (24, .inl (s_x_ldc 189)), (26, .inr (.inr (.inr (2, 45)))), (29, .inl s_x_no), (30, .inl (s_x_aload_n 0)), (31, .inl (s_x_getfield 10))]
theorem gw_72_0 : gj_72_0 = gi_72_0.map (fun e => (e.1, s_op e.2.1)) := rfl
noncomputable def gj_72_1 : List (Nat × sOp) := [(34, .inl (s_x_iload_n 1)), (35, .inr (.inr (.inr (1, 191)))), (38, .inl (s_x_aload_n 2)), (39, .inl (s_x_getfield 117)), (42, .inr (.inr (.inl 0)))]
theorem gw_72_1 : gj_72_1 = gi_72_1.map (fun e => (e.1, s_op e.2.1)) := rfl
noncomputable def gj_72 : List (List (Nat × sOp)) := [gj_72_0, gj_72_1]
theorem gw_72 : gj_72 = gi_72.map (fun ch => ch.map (fun e => (e.1, s_op e.2.1))) := by
  unfold gj_72 gi_72
  simp only [gw_72_0, gw_72_1, List.map_cons, List.map_nil]
noncomputable def gj_73_0 : List (Nat × sOp) := [(0, .inl (s_x_aload_n 2)), (1, .inl (s_x_iconst 0)), (2, .inl (s_x_aload_n 0)), (3, .inl (s_x_iload_n 1)), (4, .inr (.inr (.inr (1, 48)))), (7, .inl s_x_i2l), (8, .inl s_x_lastore), (9, .inl (s_x_goto 9)), (12, .inl (s_x_astore_n 3)), (13, .inl (s_x_iconst 1)), (14, .inr (.inr (.inl 0))), (15, .inl (s_x_astore_n 3)), (16, .inl (s_x_iconst 2)), (17, .inr (.inr (.inl 0))), (18, .inl (s_x_iconst 0)), (19, .inr (.inr (.inl 0)))]
theorem gw_73_0 : gj_73_0 = gi_73_0.map (fun e => (e.1, s_op e.2.1)) := rfl
noncomputable def gj_73 : List (List (Nat × sOp)) := [gj_73_0]
theorem gw_73 : gj_73 = gi_73.map (fun ch => ch.map (fun e => (e.1, s_op e.2.1))) := by
  unfold gj_73 gi_73
  simp only [gw_73_0, List.map_cons, List.map_nil]
noncomputable def gj_74_0 : List (Nat × sOp) := [(0, .inl (s_x_aload_n 0)), (1, .inl (s_x_iload_n 1)), (2, .inl (s_x_putfield 29)), (5, .inl (s_x_aload_n 0)), (6, .inl (s_x_iconst 0)), (7, .inl (s_x_putfield 64)), (10, .inl (s_x_aload_n 0)), (11, .inl (s_x_iconst 0)), (12, .inl (s_x_putfield 68)), (15, .inl (s_x_aload_n 0)), (16, .inl (s_x_getfield 18)), (19, .inl (s_x_iload_n 1)), (20, .inr (.inr (.inr (1, 71)))), (23, .inl s_x_no), (26, .inr (.inr (.inr (1, 36)))), (29, .inl (s_x_astore_n 2)), (30, .inl (s_x_aload_n 2)), (31, .inr (.inr (.inr (3, 40))))]
theorem gw_74_0 : gj_74_0 = gi_74_0.map (fun e => (e.1, s_op e.2.1)) := rfl
noncomputable def gj_74_1 : List (Nat × sOp) := [(36, .inr (.inl (s_sp_if, (s_x_ifCond .eq 24)))), (39, .inl (s_x_aload_n 2)), (40, .inr (.inr (.inr (3, 46)))), (45, .inl s_x_no), (48, .inl (s_x_astore_n 3)), (49, .inl (s_x_aload_n 3)), (50, .inl (s_x_iconst 4)), (51, .inl (s_x_iconst 0)), (52, .inl s_x_iastore), (53, .inl (s_x_aload_n 3)), (54, .inl (s_x_iconst 5)), (55, .inl (s_x_iconst 0)), (56, .inl s_x_iastore), (57, .inl (s_x_goto (-27))), (60, .inr (.inr (.inl 4)))]
theorem gw_74_1 : gj_74_1 = gi_74_1.map (fun e => (e.1, s_op e.2.1)) := rfl
noncomputable def gj_74 : List (List (Nat × sOp)) := [gj_74_0, gj_74_1]
theorem gw_74 : gj_74 = gi_74.map (fun ch => ch.map (fun e => (e.1, s_op e.2.1))) := by
  unfold gj_74 gi_74
  simp only [gw_74_0, gw_74_1, List.map_cons, List.map_nil]
noncomputable def gj_75_0 : List (Nat × sOp) := [(0, .inl (s_x_aload_n 0)), (1, .inl (s_x_iconst 0)), (2, .inl (s_x_putfield 23)), (5, .inl (s_x_aload_n 0)), (6, .inl (s_x_iload_n 1)), (7, .inr (.inr (.inr (1, 53)))), (10, .inr (.inl (s_sp_if, (s_x_ifCond .ne 9)))), (13, .inl (s_x_aload_n 0)), (14, .inl (s_x_iconst 1)), (15, .inr (.inr (.inr (1, 41)))), (18, .inr (.inr (.inl 0))), (19, .inl (s_x_aload_n 0)), (20, .inl (s_x_getfield 19)), (23, .inl (s_x_getfield 64)), (26, .inl (s_x_iconst (-1))), (27, .inr (.inl (s_sp_ic, (s_x_if_icmp .eq 9)))), (30, .inl (s_x_aload_n 0)), (31, .inl (s_x_iconst 2))]
theorem gw_75_0 : gj_75_0 = gi_75_0.map (fun e => (e.1, s_op e.2.1)) := rfl
noncomputable def gj_75_1 : List (Nat × sOp) := [(32, .inr (.inr (.inr (1, 41)))), (35, .inr (.inr (.inl 0))), (36, .inl (s_x_aload_n 0)), (37, .inl (s_x_getfield 19)), (40, .inl (s_x_iload_n 1)), (41, .inr (.inr (.inr (1, 105)))), (44, .inl (s_x_aload_n 0)), (45, .inl (s_x_getfield 19)), (48, .inl (s_x_getfield 38)), (51, .inl (s_x_iload_n 1)), (52, .inr (.inr (.inr (1, 60)))), (55, .inl s_x_no), (58, .inr (.inr (.inr (1, 30)))), (61, .inr (.inr (.inl 0)))]
theorem gw_75_1 : gj_75_1 = gi_75_1.map (fun e => (e.1, s_op e.2.1)) := rfl
noncomputable def gj_75 : List (List (Nat × sOp)) := [gj_75_0, gj_75_1]
theorem gw_75 : gj_75 = gi_75.map (fun ch => ch.map (fun e => (e.1, s_op e.2.1))) := by
  unfold gj_75 gi_75
  simp only [gw_75_0, gw_75_1, List.map_cons, List.map_nil]
noncomputable def gj_76_0 : List (Nat × sOp) := [(0, .inl (s_x_aload_n 0)), (1, .inl (s_x_getfield 10)), (4, .inl (s_x_getfield 112)), (7, .inl (s_x_iconst (-1))), (8, .inr (.inl (s_sp_ic, (s_x_if_icmp .ne 14)))), (11, .inl (s_x_new 41)), (14, .inl s_x_dup), (15, .inl s_x_no), (18, .inr (.inr (.inr (2, 45)))), (21, .inl s_x_no), (22, .inr (.inr (.inl 4)))]
theorem gw_76_0 : gj_76_0 = gi_76_0.map (fun e => (e.1, s_op e.2.1)) := rfl
noncomputable def gj_76 : List (List (Nat × sOp)) := [gj_76_0]
theorem gw_76 : gj_76 = gi_76.map (fun ch => ch.map (fun e => (e.1, s_op e.2.1))) := by
  unfold gj_76 gi_76
  simp only [gw_76_0, List.map_cons, List.map_nil]
noncomputable def gj_77_0 : List (Nat × sOp) := [(0, .inl (s_x_aload_n 0)), (1, .inr (.inr (.inr (1, 195)))), (4, .inl (s_x_aload_n 0)), (5, .inl (s_x_getfield 10)), (8, .inl (s_x_getfield 198)), (11, .inl (s_x_istore_n 2)), (12, .inl (s_x_aload_n 0)), (13, .inl (s_x_getfield 10)), (16, .inl (s_x_iload_n 1)), (17, .inl (s_x_putfield 198)), (20, .inl (s_x_iload_n 2)), (21, .inr (.inr (.inl 0)))]
theorem gw_77_0 : gj_77_0 = gi_77_0.map (fun e => (e.1, s_op e.2.1)) := rfl
noncomputable def gj_77 : List (List (Nat × sOp)) := [gj_77_0]
theorem gw_77 : gj_77 = gi_77.map (fun ch => ch.map (fun e => (e.1, s_op e.2.1))) := by
  unfold gj_77 gi_77
  simp only [gw_77_0, List.map_cons, List.map_nil]
noncomputable def gj_78_0 : List (Nat × sOp) := [(0, .inl (s_x_aload_n 2)), (1, .inl (s_x_iconst 0)), (2, .inl (s_x_aload_n 0)), (3, .inl (s_x_iload_n 1)), (4, .inr (.inr (.inr (1, 51)))), (7, .inr (.inl (s_sp_if, (s_x_ifCond .eq 7)))), (10, .inl (s_x_lconst 1)), (11, .inl (s_x_goto 4)), (14, .inl (s_x_lconst 0)), (15, .inl s_x_lastore), (16, .inl (s_x_goto 6)), (19, .inl (s_x_astore_n 3)), (20, .inl (s_x_iconst 1)), (21, .inr (.inr (.inl 0))), (22, .inl (s_x_iconst 0)), (23, .inr (.inr (.inl 0)))]
theorem gw_78_0 : gj_78_0 = gi_78_0.map (fun e => (e.1, s_op e.2.1)) := rfl
noncomputable def gj_78 : List (List (Nat × sOp)) := [gj_78_0]
theorem gw_78 : gj_78 = gi_78.map (fun ch => ch.map (fun e => (e.1, s_op e.2.1))) := by
  unfold gj_78 gi_78
  simp only [gw_78_0, List.map_cons, List.map_nil]
noncomputable def gj_79_0 : List (Nat × sOp) := [(0, .inl (s_x_aload_n 0)), (1, .inl (s_x_aload_n 0)), (2, .inl (s_x_getfield 19)), (5, .inl (s_x_getfield 64)), (8, .inl (s_x_iconst (-1))), (9, .inr (.inl (s_sp_ic, (s_x_if_icmp .ne 7)))), (12, .inl (s_x_iconst 1)), (13, .inl (s_x_goto 4)), (16, .inl (s_x_iconst 0)), (17, .inl (s_x_putfield 23)), (20, .inl (s_x_aload_n 0)), (21, .inl (s_x_getfield 23)), (24, .inr (.inl (s_sp_if, (s_x_ifCond .le 5)))), (27, .inl (s_x_iconst 0)), (28, .inr (.inr (.inl 0))), (29, .inl (s_x_aload_n 0)), (30, .inl (s_x_getfield 19))]
theorem gw_79_0 : gj_79_0 = gi_79_0.map (fun e => (e.1, s_op e.2.1)) := rfl
noncomputable def gj_79_1 : List (Nat × sOp) := [(33, .inl (s_x_getfield 108)), (36, .inl (s_x_istore_n 2)), (37, .inl (s_x_aload_n 0)), (38, .inl (s_x_getfield 19)), (41, .inl (s_x_iload_n 1)), (42, .inl (s_x_putfield 108)), (45, .inl (s_x_iload_n 2)), (46, .inr (.inr (.inl 0)))]
theorem gw_79_1 : gj_79_1 = gi_79_1.map (fun e => (e.1, s_op e.2.1)) := rfl
noncomputable def gj_79 : List (List (Nat × sOp)) := [gj_79_0, gj_79_1]
theorem gw_79 : gj_79 = gi_79.map (fun ch => ch.map (fun e => (e.1, s_op e.2.1))) := by
  unfold gj_79 gi_79
  simp only [gw_79_0, gw_79_1, List.map_cons, List.map_nil]
noncomputable def gj_80_0 : List (Nat × sOp) := [(0, .inl (s_x_iconst 0)), (1, .inl (s_x_istore_n 1)), (2, .inl (s_x_iconst 0)), (3, .inl (s_x_istore_n 2)), (4, .inl (s_x_iload_n 2)), (5, .inl (s_x_aload_n 0)), (6, .inl (s_x_getfield 22)), (9, .inr (.inl (s_sp_ic, (s_x_if_icmp .ge 24)))), (12, .inl (s_x_aload_n 0)), (13, .inl (s_x_getfield 17)), (16, .inl (s_x_iload_n 2)), (17, .inl s_x_aaload), (18, .inl (s_x_getfield 39)), (21, .inr (.inl (s_sp_if, (s_x_ifCond .ne 6)))), (24, .inl (s_x_iinc 1 1)), (27, .inl (s_x_iinc 2 1)), (30, .inl (s_x_goto (-26)))]
theorem gw_80_0 : gj_80_0 = gi_80_0.map (fun e => (e.1, s_op e.2.1)) := rfl
noncomputable def gj_80_1 : List (Nat × sOp) := [(33, .inl (s_x_iload_n 1)), (34, .inr (.inr (.inl 0)))]
theorem gw_80_1 : gj_80_1 = gi_80_1.map (fun e => (e.1, s_op e.2.1)) := rfl
noncomputable def gj_80 : List (List (Nat × sOp)) := [gj_80_0, gj_80_1]
theorem gw_80 : gj_80 = gi_80.map (fun ch => ch.map (fun e => (e.1, s_op e.2.1))) := by
  unfold gj_80 gi_80
  simp only [gw_80_0, gw_80_1, List.map_cons, List.map_nil]
noncomputable def gj_81_0 : List (Nat × sOp) := [(0, .inl (s_x_aload_n 0)), (1, .inl (s_x_getfield 15)), (4, .inl (s_x_iconst (-1))), (5, .inr (.inl (s_sp_ic, (s_x_if_icmp .ne 7)))), (8, .inl (s_x_iconst 0)), (9, .inl (s_x_goto 14)), (12, .inl (s_x_aload_n 0)), (13, .inl (s_x_aload_n 0)), (14, .inl (s_x_getfield 15)), (17, .inr (.inr (.inr (1, 96)))), (20, .inr (.inr (.inr (1, 103)))), (23, .inr (.inr (.inl 0)))]
theorem gw_81_0 : gj_81_0 = gi_81_0.map (fun e => (e.1, s_op e.2.1)) := rfl
noncomputable def gj_81 : List (List (Nat × sOp)) := [gj_81_0]
theorem gw_81 : gj_81 = gi_81.map (fun ch => ch.map (fun e => (e.1, s_op e.2.1))) := by
  unfold gj_81 gi_81
  simp only [gw_81_0, List.map_cons, List.map_nil]
noncomputable def gj_82_0 : List (Nat × sOp) := [(0, .inl (s_x_aload_n 0)), (1, .inl (s_x_iconst (-1))), (2, .inl (s_x_putfield 15)), (5, .inl (s_x_aload_n 0)), (6, .inl (s_x_iconst 0)), (7, .inl (s_x_putfield 56)), (10, .inl (s_x_aload_n 0)), (11, .inl (s_x_iconst 0)), (12, .inl (s_x_putfield 60)), (15, .inr (.inr (.inl 4)))]
theorem gw_82_0 : gj_82_0 = gi_82_0.map (fun e => (e.1, s_op e.2.1)) := rfl
noncomputable def gj_82 : List (List (Nat × sOp)) := [gj_82_0]
theorem gw_82 : gj_82 = gi_82.map (fun ch => ch.map (fun e => (e.1, s_op e.2.1))) := by
  unfold gj_82 gi_82
  simp only [gw_82_0, List.map_cons, List.map_nil]
noncomputable def gj_83_0 : List (Nat × sOp) := [(0, .inl (s_x_aload_n 0)), (1, .inr (.inr (.inr (1, 195)))), (4, .inl (s_x_aload_n 0)), (5, .inl (s_x_getfield 10)), (8, .inr (.inr (.inr (1, 201)))), (11, .inl (s_x_istore_n 1)), (12, .inl (s_x_aload_n 0)), (13, .inl (s_x_getfield 10)), (16, .inr (.inr (.inr (1, 204)))), (19, .inl (s_x_iload_n 1)), (20, .inr (.inr (.inl 0)))]
theorem gw_83_0 : gj_83_0 = gi_83_0.map (fun e => (e.1, s_op e.2.1)) := rfl
noncomputable def gj_83 : List (List (Nat × sOp)) := [gj_83_0]
theorem gw_83 : gj_83 = gi_83.map (fun ch => ch.map (fun e => (e.1, s_op e.2.1))) := by
  unfold gj_83 gi_83
  simp only [gw_83_0, List.map_cons, List.map_nil]
noncomputable def gj_84_0 : List (Nat × sOp) := [(0, .inl (s_x_aload_n 1)), (1, .inl (s_x_iconst 0)), (2, .inl (s_x_aload_n 0)), (3, .inr (.inr (.inr (1, 55)))), (6, .inl s_x_i2l), (7, .inl s_x_lastore), (8, .inl (s_x_goto 6)), (11, .inl (s_x_astore_n 2)), (12, .inl (s_x_iconst 1)), (13, .inr (.inr (.inl 0))), (14, .inl (s_x_iconst 0)), (15, .inr (.inr (.inl 0)))]
theorem gw_84_0 : gj_84_0 = gi_84_0.map (fun e => (e.1, s_op e.2.1)) := rfl
noncomputable def gj_84 : List (List (Nat × sOp)) := [gj_84_0]
theorem gw_84 : gj_84 = gi_84.map (fun ch => ch.map (fun e => (e.1, s_op e.2.1))) := by
  unfold gj_84 gi_84
  simp only [gw_84_0, List.map_cons, List.map_nil]
noncomputable def gj_85_0 : List (Nat × sOp) := [(0, .inl (s_x_iconst 0)), (1, .inl (s_x_istore_n 1)), (2, .inl (s_x_aload_n 0)), (3, .inl (s_x_getfield 29)), (6, .inl (s_x_iconst (-1))), (7, .inr (.inl (s_sp_ic, (s_x_if_icmp .ne 5)))), (10, .inl (s_x_iconst 0)), (11, .inr (.inr (.inl 0))), (12, .inl (s_x_aload_n 0)), (13, .inl (s_x_getfield 18)), (16, .inl (s_x_aload_n 0)), (17, .inl (s_x_getfield 29)), (20, .inr (.inr (.inr (1, 71)))), (23, .inl s_x_no), (26, .inr (.inr (.inr (1, 36)))), (29, .inl (s_x_astore_n 2)), (30, .inl (s_x_aload_n 2)), (31, .inr (.inr (.inr (3, 40))))]
theorem gw_85_0 : gj_85_0 = gi_85_0.map (fun e => (e.1, s_op e.2.1)) := rfl
noncomputable def gj_85_1 : List (Nat × sOp) := [(36, .inr (.inl (s_sp_if, (s_x_ifCond .eq 30)))), (39, .inl (s_x_aload_n 2)), (40, .inr (.inr (.inr (3, 46)))), (45, .inl s_x_no), (48, .inl (s_x_astore_n 3)), (49, .inl (s_x_iload_n 1)), (50, .inl (s_x_aload_n 3)), (51, .inl (s_x_iconst 4)), (52, .inr (.inl (s_sp_ia, s_x_iaload))), (53, .inr (.inl (s_sp_if, (s_x_ifCond .ne 7)))), (56, .inl (s_x_iconst 1)), (57, .inl (s_x_goto 4)), (60, .inl (s_x_iconst 0)), (61, .inl s_x_iadd), (62, .inl (s_x_istore_n 1)), (63, .inl (s_x_goto (-33)))]
theorem gw_85_1 : gj_85_1 = gi_85_1.map (fun e => (e.1, s_op e.2.1)) := rfl
noncomputable def gj_85_2 : List (Nat × sOp) := [(66, .inl (s_x_iload_n 1)), (67, .inr (.inr (.inl 0)))]
theorem gw_85_2 : gj_85_2 = gi_85_2.map (fun e => (e.1, s_op e.2.1)) := rfl
noncomputable def gj_85 : List (List (Nat × sOp)) := [gj_85_0, gj_85_1, gj_85_2]
theorem gw_85 : gj_85 = gi_85.map (fun ch => ch.map (fun e => (e.1, s_op e.2.1))) := by
  unfold gj_85 gi_85
  simp only [gw_85_0, gw_85_1, gw_85_2, List.map_cons, List.map_nil]
noncomputable def gj_86_0 : List (Nat × sOp) := [(0, .inl (s_x_aload_n 0)), (1, .inl (s_x_iconst (-1))), (2, .inl (s_x_putfield 29)), (5, .inl (s_x_aload_n 0)), (6, .inl (s_x_iconst 0)), (7, .inl (s_x_putfield 64)), (10, .inl (s_x_aload_n 0)), (11, .inl (s_x_iconst 0)), (12, .inl (s_x_putfield 68)), (15, .inr (.inr (.inl 4)))]
theorem gw_86_0 : gj_86_0 = gi_86_0.map (fun e => (e.1, s_op e.2.1)) := rfl
noncomputable def gj_86 : List (List (Nat × sOp)) := [gj_86_0]
theorem gw_86 : gj_86 = gi_86.map (fun ch => ch.map (fun e => (e.1, s_op e.2.1))) := by
  unfold gj_86 gi_86
  simp only [gw_86_0, List.map_cons, List.map_nil]
noncomputable def gj_87_0 : List (Nat × sOp) := [(0, .inl (s_x_aload_n 0)), (1, .inl (s_x_iconst 0)), (2, .inl (s_x_putfield 23)), (5, .inl (s_x_aload_n 0)), (6, .inl (s_x_getfield 19)), (9, .inl (s_x_getfield 64)), (12, .inl (s_x_iconst (-1))), (13, .inr (.inl (s_sp_ic, (s_x_if_icmp .ne 9)))), (16, .inl (s_x_aload_n 0)), (17, .inl (s_x_iconst 1)), (18, .inr (.inr (.inr (1, 41)))), (21, .inr (.inr (.inl 0))), (22, .inl (s_x_aload_n 0)), (23, .inl (s_x_getfield 19)), (26, .inr (.inr (.inr (1, 112)))), (29, .inl (s_x_istore_n 1)), (30, .inl (s_x_aload_n 0)), (31, .inl (s_x_getfield 19))]
theorem gw_87_0 : gj_87_0 = gi_87_0.map (fun e => (e.1, s_op e.2.1)) := rfl
noncomputable def gj_87_1 : List (Nat × sOp) := [(34, .inr (.inr (.inr (1, 115)))), (37, .inl (s_x_iload_n 1)), (38, .inr (.inr (.inl 0)))]
theorem gw_87_1 : gj_87_1 = gi_87_1.map (fun e => (e.1, s_op e.2.1)) := rfl
noncomputable def gj_87 : List (List (Nat × sOp)) := [gj_87_0, gj_87_1]
theorem gw_87 : gj_87 = gi_87.map (fun ch => ch.map (fun e => (e.1, s_op e.2.1))) := by
  unfold gj_87 gi_87
  simp only [gw_87_0, gw_87_1, List.map_cons, List.map_nil]
noncomputable def gj_88_0 : List (Nat × sOp) := [(0, .inl (s_x_aload_n 0)), (1, .inl (s_x_getfield 10)), (4, .inl (s_x_iload_n 1)), (5, .inr (.inr (.inr (1, 102)))), (8, .inl (s_x_astore_n 3)), (9, .inl (s_x_aload_n 3)), (10, .inl (s_x_getfield 207)), (13, .inl (s_x_istore 4)), (15, .inl (s_x_aload_n 3)), (16, .inl (s_x_iload_n 2)), (17, .inl (s_x_putfield 207)), (20, .inl (s_x_iload 4)), (22, .inr (.inr (.inl 0)))]
theorem gw_88_0 : gj_88_0 = gi_88_0.map (fun e => (e.1, s_op e.2.1)) := rfl
noncomputable def gj_88 : List (List (Nat × sOp)) := [gj_88_0]
theorem gw_88 : gj_88 = gi_88.map (fun ch => ch.map (fun e => (e.1, s_op e.2.1))) := by
  unfold gj_88 gi_88
  simp only [gw_88_0, List.map_cons, List.map_nil]
noncomputable def gj_89_0 : List (Nat × sOp) := [(0, .inl (s_x_aload_n 3)), (1, .inl (s_x_iconst 0)), (2, .inl (s_x_aload_n 0)), (3, .inl (s_x_iload_n 1)), (4, .inl (s_x_iload_n 2)), (5, .inr (.inr (.inr (1, 59)))), (8, .inr (.inl (s_sp_if, (s_x_ifCond .eq 7)))), (11, .inl (s_x_lconst 1)), (12, .inl (s_x_goto 4)), (15, .inl (s_x_lconst 0)), (16, .inl s_x_lastore), (17, .inl (s_x_goto 7)), (20, .inl (s_x_astore 4)), (22, .inl (s_x_iconst 1)), (23, .inr (.inr (.inl 0))), (24, .inl (s_x_iconst 0)), (25, .inr (.inr (.inl 0)))]
theorem gw_89_0 : gj_89_0 = gi_89_0.map (fun e => (e.1, s_op e.2.1)) := rfl
noncomputable def gj_89 : List (List (Nat × sOp)) := [gj_89_0]
theorem gw_89 : gj_89 = gi_89.map (fun ch => ch.map (fun e => (e.1, s_op e.2.1))) := by
  unfold gj_89 gi_89
  simp only [gw_89_0, List.map_cons, List.map_nil]
noncomputable def gj_90_0 : List (Nat × sOp) := [(0, .inl (s_x_aload_n 0)), (1, .inl (s_x_aload_n 0)), (2, .inl (s_x_iload_n 1)), (3, .inr (.inr (.inr (1, 57)))), (6, .inr (.inl (s_sp_if, (s_x_ifCond .eq 7)))), (9, .inl (s_x_iconst 0)), (10, .inl (s_x_goto 4)), (13, .inl (s_x_iconst 1)), (14, .inl (s_x_putfield 23)), (17, .inl (s_x_aload_n 0)), (18, .inl (s_x_getfield 23)), (21, .inr (.inl (s_sp_if, (s_x_ifCond .le 5)))), (24, .inl (s_x_iconst 0)), (25, .inr (.inr (.inl 0))), (26, .inl (s_x_aload_n 0)), (27, .inl (s_x_getfield 19)), (30, .inl (s_x_getfield 27))]
theorem gw_90_0 : gj_90_0 = gi_90_0.map (fun e => (e.1, s_op e.2.1)) := rfl
noncomputable def gj_90_1 : List (Nat × sOp) := [(33, .inl (s_x_iload_n 1)), (34, .inr (.inr (.inr (1, 60)))), (37, .inl s_x_no), (40, .inl (s_x_bipush 6)), (42, .inr (.inl (s_sp_ia, s_x_iaload))), (43, .inl (s_x_iconst 1)), (44, .inr (.inl (s_sp_ic, (s_x_if_icmp .ne 7)))), (47, .inl (s_x_iconst 1)), (48, .inl (s_x_goto 4)), (51, .inl (s_x_iconst 0)), (52, .inl (s_x_istore_n 3)), (53, .inl (s_x_aload_n 0)), (54, .inl (s_x_getfield 19)), (57, .inl (s_x_getfield 27)), (60, .inl (s_x_iload_n 1)), (61, .inr (.inr (.inr (1, 60))))]
theorem gw_90_1 : gj_90_1 = gi_90_1.map (fun e => (e.1, s_op e.2.1)) := rfl
noncomputable def gj_90_2 : List (Nat × sOp) := [(64, .inl s_x_no), (67, .inl (s_x_bipush 6)), (69, .inl (s_x_iload_n 2)), (70, .inr (.inl (s_sp_if, (s_x_ifCond .eq 7)))), (73, .inl (s_x_iconst 1)), (74, .inl (s_x_goto 4)), (77, .inl (s_x_iconst 0)), (78, .inl s_x_iastore), (79, .inl (s_x_iload_n 3)), (80, .inr (.inr (.inl 0)))]
theorem gw_90_2 : gj_90_2 = gi_90_2.map (fun e => (e.1, s_op e.2.1)) := rfl
noncomputable def gj_90 : List (List (Nat × sOp)) := [gj_90_0, gj_90_1, gj_90_2]
theorem gw_90 : gj_90 = gi_90.map (fun ch => ch.map (fun e => (e.1, s_op e.2.1))) := by
  unfold gj_90 gi_90
  simp only [gw_90_0, gw_90_1, gw_90_2, List.map_cons, List.map_nil]
noncomputable def gj_91_0 : List (Nat × sOp) := [(0, .inl (s_x_aload_n 0)), (1, .inr (.inr (.inr (1, 50)))), (4, .inl (s_x_istore_n 1)), (5, .inl (s_x_iload_n 1)), (6, .inr (.inl (s_sp_if, (s_x_ifCond .ge 8)))), (9, .inl (s_x_iload_n 1)), (10, .inl s_x_ineg), (11, .inl (s_x_goto 4)), (14, .inl (s_x_iload_n 1)), (15, .inr (.inr (.inl 0)))]
theorem gw_91_0 : gj_91_0 = gi_91_0.map (fun e => (e.1, s_op e.2.1)) := rfl
noncomputable def gj_91 : List (List (Nat × sOp)) := [gj_91_0]
theorem gw_91 : gj_91 = gi_91.map (fun ch => ch.map (fun e => (e.1, s_op e.2.1))) := by
  unfold gj_91 gi_91
  simp only [gw_91_0, List.map_cons, List.map_nil]
noncomputable def gj_92_0 : List (Nat × sOp) := [(0, .inl (s_x_aload_n 2)), (1, .inr (.inr (.inr (1, 156)))), (4, .inl (s_x_bipush 10)), (6, .inr (.inl (s_sp_ic, (s_x_if_icmp .le 20)))), (9, .inl (s_x_aload_n 1)), (10, .inl (s_x_iconst 2)), (11, .inl (s_x_putfield 133)), (14, .inl (s_x_aload_n 0)), (15, .inl s_x_dup), (16, .inl (s_x_getfield 69)), (19, .inl (s_x_iconst 1)), (20, .inl s_x_iadd), (21, .inl (s_x_putfield 69)), (24, .inl (s_x_iconst 0)), (25, .inr (.inr (.inl 0))), (26, .inl (s_x_aload_n 2)), (27, .inl (s_x_getfield 159)), (30, .inr (.inl (s_sp_if, (s_x_ifCond .ne 14))))]
theorem gw_92_0 : gj_92_0 = gi_92_0.map (fun e => (e.1, s_op e.2.1)) := rfl
noncomputable def gj_92_1 : List (Nat × sOp) := [(33, .inl (s_x_aload_n 0)), (34, .inl (s_x_getfield 50)), (37, .inr (.inl (s_sp_if, (s_x_ifCond .ne 7)))), (40, .inl (s_x_iconst 1)), (41, .inl (s_x_goto 4)), (44, .inl (s_x_iconst 0)), (45, .inl (s_x_istore_n 3)), (46, .inl (s_x_iload_n 3)), (47, .inr (.inl (s_sp_if, (s_x_ifCond .ne 17)))), (50, .inl (s_x_aload_n 2)), (51, .inl (s_x_getfield 162)), (54, .inr (.inl (s_sp_if, (s_x_ifCond .eq 32)))), (57, .inl (s_x_aload_n 2)), (58, .inl (s_x_getfield 165)), (61, .inr (.inl (s_sp_if, (s_x_ifCond .ne 25))))]
theorem gw_92_1 : gj_92_1 = gi_92_1.map (fun e => (e.1, s_op e.2.1)) := rfl
noncomputable def gj_92_2 : List (Nat × sOp) := [(64, .inl (s_x_aload_n 1)), (65, .inl s_x_dup), (66, .inl (s_x_getfield 168)), (69, .inl (s_x_iconst 1)), (70, .inl s_x_iadd), (71, .inl (s_x_putfield 168)), (74, .inl (s_x_aload_n 0)), (75, .inl s_x_dup), (76, .inl (s_x_getfield 81)), (79, .inl (s_x_iconst 1)), (80, .inl s_x_iadd), (81, .inl (s_x_putfield 81)), (84, .inl (s_x_iconst 0)), (85, .inr (.inr (.inl 0))), (86, .inl (s_x_iconst 1)), (87, .inr (.inr (.inl 0)))]
theorem gw_92_2 : gj_92_2 = gi_92_2.map (fun e => (e.1, s_op e.2.1)) := rfl
noncomputable def gj_92 : List (List (Nat × sOp)) := [gj_92_0, gj_92_1, gj_92_2]
theorem gw_92 : gj_92 = gi_92.map (fun ch => ch.map (fun e => (e.1, s_op e.2.1))) := by
  unfold gj_92 gi_92
  simp only [gw_92_0, gw_92_1, gw_92_2, List.map_cons, List.map_nil]
noncomputable def gj_93_0 : List (Nat × sOp) := [(0, .inl (s_x_aload_n 0)), (1, .inl (s_x_getfield 13)), (4, .inl (s_x_aload_n 2)), (5, .inl (s_x_getfield 13)), (8, .inr (.inl (s_sp_ic, (s_x_if_icmp .ge 15)))), (11, .inl (s_x_aload_n 2)), (12, .inl (s_x_getfield 13)), (15, .inl (s_x_aload_n 0)), (16, .inl (s_x_getfield 13)), (19, .inl s_x_isub), (20, .inl (s_x_goto 12)), (23, .inl (s_x_aload_n 0)), (24, .inl (s_x_getfield 13)), (27, .inl (s_x_aload_n 2)), (28, .inl (s_x_getfield 13)), (31, .inl s_x_isub)]
theorem gw_93_0 : gj_93_0 = gi_93_0.map (fun e => (e.1, s_op e.2.1)) := rfl
noncomputable def gj_93_1 : List (Nat × sOp) := [(32, .inl (s_x_istore_n 3)), (33, .inl (s_x_iload_n 3)), (34, .inr (.inl (s_sp_if, (s_x_ifCond .eq 46)))), (37, .inl (s_x_iload_n 3)), (38, .inl (s_x_aload_n 0)), (39, .inl (s_x_getfield 35)), (42, .inl (s_x_aload_n 2)), (43, .inl (s_x_getfield 35)), (46, .inl s_x_iadd), (47, .inr (.inl (s_sp_ic, (s_x_if_icmp .gt 33)))), (50, .inl (s_x_iload_n 1)), (51, .inl (s_x_aload_n 0)), (52, .inl (s_x_getfield 32)), (55, .inl s_x_isub), (56, .inl (s_x_aload_n 2)), (57, .inl (s_x_getfield 23)), (60, .inr (.inl (s_sp_ic, (s_x_if_icmp .gt 20)))), (63, .inl (s_x_aload_n 2))]
theorem gw_93_1 : gj_93_1 = gi_93_1.map (fun e => (e.1, s_op e.2.1)) := rfl
noncomputable def gj_93_2 : List (Nat × sOp) := [(64, .inl (s_x_getfield 23)), (67, .inl (s_x_aload_n 2)), (68, .inl (s_x_getfield 32)), (71, .inl s_x_isub), (72, .inl (s_x_iload_n 1)), (73, .inr (.inl (s_sp_ic, (s_x_if_icmp .gt 7)))), (76, .inl (s_x_iconst 1)), (77, .inl (s_x_goto 4)), (80, .inl (s_x_iconst 0)), (81, .inr (.inr (.inl 0)))]
theorem gw_93_2 : gj_93_2 = gi_93_2.map (fun e => (e.1, s_op e.2.1)) := rfl
noncomputable def gj_93 : List (List (Nat × sOp)) := [gj_93_0, gj_93_1, gj_93_2]
theorem gw_93 : gj_93 = gi_93.map (fun ch => ch.map (fun e => (e.1, s_op e.2.1))) := by
  unfold gj_93 gi_93
  simp only [gw_93_0, gw_93_1, gw_93_2, List.map_cons, List.map_nil]
noncomputable def gj_94_0 : List (Nat × sOp) := [(0, .inl (s_x_iconst 0)), (1, .inl (s_x_istore_n 3)), (2, .inl (s_x_iload_n 3)), (3, .inl (s_x_aload_n 0)), (4, .inl (s_x_getfield 37)), (7, .inr (.inl (s_sp_ic, (s_x_if_icmp .ge 42)))), (10, .inl (s_x_aload_n 1)), (11, .inl (s_x_iload_n 2)), (12, .inl (s_x_aload_n 0)), (13, .inl (s_x_getfield 23)), (16, .inl (s_x_iload_n 3)), (17, .inl s_x_aaload), (18, .inr (.inr (.inr (1, 194)))), (21, .inr (.inl (s_sp_if, (s_x_ifCond .eq 22)))), (24, .inl (s_x_aload_n 1)), (25, .inl (s_x_aload_n 1)), (26, .inl (s_x_getfield 107)), (29, .inl (s_x_aload_n 0)), (30, .inl (s_x_getfield 23))]
theorem gw_94_0 : gj_94_0 = gi_94_0.map (fun e => (e.1, s_op e.2.1)) := rfl
noncomputable def gj_94_1 : List (Nat × sOp) := [(33, .inl (s_x_iload_n 3)), (34, .inl s_x_aaload), (35, .inr (.inr (.inr (1, 194)))), (38, .inr (.inl (s_sp_if, (s_x_ifCond .ne 5)))), (41, .inl (s_x_iconst 1)), (42, .inr (.inr (.inl 0))), (43, .inl (s_x_iinc 3 1)), (46, .inl (s_x_goto (-44))), (49, .inl (s_x_iconst 0)), (50, .inr (.inr (.inl 0)))]
theorem gw_94_1 : gj_94_1 = gi_94_1.map (fun e => (e.1, s_op e.2.1)) := rfl
noncomputable def gj_94 : List (List (Nat × sOp)) := [gj_94_0, gj_94_1]
theorem gw_94 : gj_94 = gi_94.map (fun ch => ch.map (fun e => (e.1, s_op e.2.1))) := by
  unfold gj_94 gi_94
  simp only [gw_94_0, gw_94_1, List.map_cons, List.map_nil]
noncomputable def gj_95_0 : List (Nat × sOp) := [(0, .inl (s_x_aload_n 0)), (1, .inl s_x_dup), (2, .inl (s_x_getfield 44)), (5, .inl (s_x_iload_n 1)), (6, .inl (s_x_aload_n 0)), (7, .inl (s_x_getfield 23)), (10, .inr (.inl (s_sp_ic, (s_x_if_icmp .ge 12)))), (13, .inl (s_x_aload_n 0)), (14, .inl (s_x_getfield 23)), (17, .inl (s_x_iload_n 1)), (18, .inl s_x_isub), (19, .inl (s_x_goto 9)), (22, .inl (s_x_iload_n 1)), (23, .inl (s_x_aload_n 0)), (24, .inl (s_x_getfield 23)), (27, .inl s_x_isub), (28, .inl s_x_iadd), (29, .inl (s_x_putfield 44))]
theorem gw_95_0 : gj_95_0 = gi_95_0.map (fun e => (e.1, s_op e.2.1)) := rfl
noncomputable def gj_95_1 : List (Nat × sOp) := [(32, .inl (s_x_aload_n 0)), (33, .inl (s_x_iload_n 1)), (34, .inl (s_x_putfield 23)), (37, .inr (.inr (.inl 4)))]
theorem gw_95_1 : gj_95_1 = gi_95_1.map (fun e => (e.1, s_op e.2.1)) := rfl
noncomputable def gj_95 : List (List (Nat × sOp)) := [gj_95_0, gj_95_1]
theorem gw_95 : gj_95 = gi_95.map (fun ch => ch.map (fun e => (e.1, s_op e.2.1))) := by
  unfold gj_95 gi_95
  simp only [gw_95_0, gw_95_1, List.map_cons, List.map_nil]
noncomputable def gj_96_0 : List (Nat × sOp) := [(0, .inl (s_x_aload_n 2)), (1, .inl (s_x_getfield 159)), (4, .inr (.inl (s_sp_if, (s_x_ifCond .ne 13)))), (7, .inl (s_x_aload_n 0)), (8, .inl s_x_dup), (9, .inl (s_x_getfield 50)), (12, .inl (s_x_iconst 1)), (13, .inl s_x_isub), (14, .inl (s_x_putfield 50)), (17, .inl (s_x_aload_n 1)), (18, .inl (s_x_getfield 169)), (21, .inl s_x_ineg), (22, .inl (s_x_aload_n 1)), (23, .inl (s_x_getfield 169)), (26, .inl (s_x_aload_n 1)), (27, .inl (s_x_getfield 172)), (30, .inl (s_x_aload_n 2)), (31, .inl (s_x_getfield 107))]
theorem gw_96_0 : gj_96_0 = gi_96_0.map (fun e => (e.1, s_op e.2.1)) := rfl
noncomputable def gj_96_1 : List (Nat × sOp) := [(34, .inl s_x_isub), (35, .inr (.inr (.inr (0, 175)))), (38, .inr (.inr (.inr (0, 181)))), (41, .inl (s_x_istore_n 3)), (42, .inl (s_x_aload_n 2)), (43, .inl (s_x_getfield 107)), (46, .inl (s_x_iload_n 3)), (47, .inl s_x_iadd), (48, .inl (s_x_istore 4)), (50, .inl (s_x_aload_n 0)), (51, .inl (s_x_aload_n 2)), (52, .inl (s_x_iload 4)), (54, .inr (.inr (.inr (1, 184)))), (57, .inr (.inl (s_sp_if, (s_x_ifCond .eq 27)))), (60, .inl (s_x_aload_n 0)), (61, .inl (s_x_iconst 1)), (62, .inl (s_x_putfield 56))]
theorem gw_96_1 : gj_96_1 = gi_96_1.map (fun e => (e.1, s_op e.2.1)) := rfl
noncomputable def gj_96_2 : List (Nat × sOp) := [(65, .inl (s_x_aload_n 0)), (66, .inl s_x_dup), (67, .inl (s_x_getfield 72)), (70, .inl (s_x_iconst 1)), (71, .inl s_x_iadd), (72, .inl (s_x_putfield 72)), (75, .inl (s_x_aload_n 0)), (76, .inl (s_x_aload_n 2)), (77, .inl (s_x_getfield 188)), (80, .inl (s_x_putfield 18)), (83, .inr (.inr (.inl 4))), (84, .inl (s_x_aload_n 2)), (85, .inl (s_x_iload 4)), (87, .inr (.inr (.inr (1, 191)))), (90, .inl (s_x_aload_n 2)), (91, .inl (s_x_getfield 107)), (94, .inl (s_x_aload_n 1)), (95, .inl (s_x_getfield 172))]
theorem gw_96_2 : gj_96_2 = gi_96_2.map (fun e => (e.1, s_op e.2.1)) := rfl
noncomputable def gj_96_3 : List (Nat × sOp) := [(98, .inr (.inl (s_sp_ic, (s_x_if_icmp .ne 18)))), (101, .inl (s_x_aload_n 1)), (102, .inl (s_x_iconst 1)), (103, .inl (s_x_putfield 133)), (106, .inl (s_x_aload_n 0)), (107, .inl s_x_dup), (108, .inl (s_x_getfield 63)), (111, .inl (s_x_iconst 1)), (112, .inl s_x_iadd), (113, .inl (s_x_putfield 63)), (116, .inr (.inr (.inl 4)))]
theorem gw_96_3 : gj_96_3 = gi_96_3.map (fun e => (e.1, s_op e.2.1)) := rfl
noncomputable def gj_96 : List (List (Nat × sOp)) := [gj_96_0, gj_96_1, gj_96_2, gj_96_3]
theorem gw_96 : gj_96 = gi_96.map (fun ch => ch.map (fun e => (e.1, s_op e.2.1))) := by
  unfold gj_96 gi_96
  simp only [gw_96_0, gw_96_1, gw_96_2, gw_96_3, List.map_cons, List.map_nil]
noncomputable def gj_97_0 : List (Nat × sOp) := [(0, .inl (s_x_aload_n 0)), (1, .inl s_x_dup), (2, .inl (s_x_getfield 60)), (5, .inl (s_x_iconst 1)), (6, .inl s_x_iadd), (7, .inl (s_x_putfield 60)), (10, .inl (s_x_aload_n 0)), (11, .inl (s_x_aload_n 0)), (12, .inl (s_x_getfield 9)), (15, .inl (s_x_putfield 50)), (18, .inl (s_x_iconst 0)), (19, .inl (s_x_istore_n 2)), (20, .inl (s_x_iload_n 2)), (21, .inl (s_x_aload_n 1)), (22, .inl (s_x_getfield 126)), (25, .inr (.inl (s_sp_ic, (s_x_if_icmp .ge 70)))), (28, .inl (s_x_aload_n 0)), (29, .inl (s_x_getfield 56))]
theorem gw_97_0 : gj_97_0 = gi_97_0.map (fun e => (e.1, s_op e.2.1)) := rfl
noncomputable def gj_97_1 : List (Nat × sOp) := [(32, .inr (.inl (s_sp_if, (s_x_ifCond .ne 63)))), (35, .inl (s_x_aload_n 1)), (36, .inl (s_x_getfield 129)), (39, .inl (s_x_iload_n 2)), (40, .inl s_x_aaload), (41, .inl (s_x_astore_n 3)), (42, .inl (s_x_aload_n 3)), (43, .inl (s_x_getfield 133)), (46, .inr (.inl (s_sp_if, (s_x_ifCond .ne 43)))), (49, .inl (s_x_aload_n 3)), (50, .inl (s_x_getfield 138)), (53, .inl (s_x_aload_n 0)), (54, .inl (s_x_getfield 60)), (57, .inl (s_x_iconst 1)), (58, .inl s_x_isub), (59, .inr (.inl (s_sp_ic, (s_x_if_icmp .gt 30)))), (62, .inl (s_x_aload_n 0)), (63, .inl (s_x_aload_n 3))]
theorem gw_97_1 : gj_97_1 = gi_97_1.map (fun e => (e.1, s_op e.2.1)) := rfl
noncomputable def gj_97_2 : List (Nat × sOp) := [(64, .inl (s_x_getfield 141)), (67, .inr (.inr (.inr (1, 144)))), (70, .inl (s_x_astore 4)), (72, .inl (s_x_aload_n 0)), (73, .inl (s_x_aload_n 3)), (74, .inl (s_x_aload 4)), (76, .inr (.inr (.inr (1, 148)))), (79, .inr (.inl (s_sp_if, (s_x_ifCond .eq 10)))), (82, .inl (s_x_aload_n 0)), (83, .inl (s_x_aload_n 3)), (84, .inl (s_x_aload 4)), (86, .inr (.inr (.inr (1, 152)))), (89, .inl (s_x_iinc 2 1)), (92, .inl (s_x_goto (-72))), (95, .inr (.inr (.inl 4)))]
theorem gw_97_2 : gj_97_2 = gi_97_2.map (fun e => (e.1, s_op e.2.1)) := rfl
noncomputable def gj_97 : List (List (Nat × sOp)) := [gj_97_0, gj_97_1, gj_97_2]
theorem gw_97 : gj_97 = gi_97.map (fun ch => ch.map (fun e => (e.1, s_op e.2.1))) := by
  unfold gj_97 gi_97
  simp only [gw_97_0, gw_97_1, gw_97_2, List.map_cons, List.map_nil]
noncomputable def gj_98_0 : List (Nat × sOp) := [(0, .inl (s_x_aload_n 1)), (1, .inl (s_x_getfield 107)), (4, .inl (s_x_iload_n 2)), (5, .inr (.inl (s_sp_ic, (s_x_if_icmp .ge 12)))), (8, .inl (s_x_iload_n 2)), (9, .inl (s_x_aload_n 1)), (10, .inl (s_x_getfield 107)), (13, .inl s_x_isub), (14, .inl (s_x_goto 9)), (17, .inl (s_x_aload_n 1)), (18, .inl (s_x_getfield 107)), (21, .inl (s_x_iload_n 2)), (22, .inl s_x_isub), (23, .inl (s_x_istore_n 3)), (24, .inl (s_x_aload_n 1)), (25, .inl (s_x_getfield 107)), (28, .inr (.inl (s_sp_if, (s_x_ifCond .eq 12)))), (31, .inl (s_x_aload_n 1))]
theorem gw_98_0 : gj_98_0 = gi_98_0.map (fun e => (e.1, s_op e.2.1)) := rfl
noncomputable def gj_98_1 : List (Nat × sOp) := [(32, .inl (s_x_getfield 107)), (35, .inl (s_x_bipush 120)), (37, .inr (.inl (s_sp_ic, (s_x_if_icmp .ne 18)))), (40, .inl (s_x_iload_n 3)), (41, .inl (s_x_iconst 4)), (42, .inr (.inl (s_sp_ic, (s_x_if_icmp .lt 13)))), (45, .inl (s_x_aload_n 0)), (46, .inl s_x_dup), (47, .inl (s_x_getfield 75)), (50, .inl (s_x_iconst 1)), (51, .inl s_x_iadd), (52, .inl (s_x_putfield 75)), (55, .inl (s_x_aload_n 1)), (56, .inl (s_x_getfield 107)), (59, .inl (s_x_iload_n 2)), (60, .inr (.inl (s_sp_ic, (s_x_if_icmp .ge 29)))), (63, .inl (s_x_aload_n 1))]
theorem gw_98_1 : gj_98_1 = gi_98_1.map (fun e => (e.1, s_op e.2.1)) := rfl
noncomputable def gj_98_2 : List (Nat × sOp) := [(64, .inl (s_x_getfield 107)), (67, .inl (s_x_bipush 20)), (69, .inr (.inl (s_sp_ic, (s_x_if_icmp .gt 20)))), (72, .inl (s_x_aload_n 1)), (73, .inl (s_x_getfield 162)), (76, .inr (.inl (s_sp_if, (s_x_ifCond .eq 13)))), (79, .inl (s_x_aload_n 0)), (80, .inl s_x_dup), (81, .inl (s_x_getfield 78)), (84, .inl (s_x_iconst 1)), (85, .inl s_x_iadd), (86, .inl (s_x_putfield 78)), (89, .inr (.inr (.inl 4)))]
theorem gw_98_2 : gj_98_2 = gi_98_2.map (fun e => (e.1, s_op e.2.1)) := rfl
noncomputable def gj_98 : List (List (Nat × sOp)) := [gj_98_0, gj_98_1, gj_98_2]
theorem gw_98 : gj_98 = gi_98.map (fun ch => ch.map (fun e => (e.1, s_op e.2.1))) := by
  unfold gj_98 gi_98
  simp only [gw_98_0, gw_98_1, gw_98_2, List.map_cons, List.map_nil]
noncomputable def gj_99_0 : List (Nat × sOp) := [(0, .inl (s_x_bipush 8)), (2, .inl (s_x_aload_n 1)), (3, .inr (.inr (.inr (1, 156)))), (6, .inl (s_x_bipush 9)), (8, .inl s_x_iadd), (9, .inl (s_x_bipush 10)), (11, .inl s_x_no), (12, .inr (.inr (.inr (0, 175)))), (15, .inl (s_x_istore_n 2)), (16, .inl (s_x_aload_n 1)), (17, .inr (.inr (.inr (1, 198)))), (20, .inr (.inl (s_sp_if, (s_x_ifCond .le 7)))), (23, .inl (s_x_iconst (-1))), (24, .inl (s_x_goto 4)), (27, .inl (s_x_iconst 1)), (28, .inl (s_x_istore_n 3)), (29, .inl (s_x_aload_n 1)), (30, .inl (s_x_getfield 107))]
theorem gw_99_0 : gj_99_0 = gi_99_0.map (fun e => (e.1, s_op e.2.1)) := rfl
noncomputable def gj_99_1 : List (Nat × sOp) := [(33, .inl (s_x_istore 4)), (35, .inl (s_x_iconst 0)), (36, .inl (s_x_istore 5)), (38, .inl (s_x_iload 5)), (40, .inl (s_x_iload_n 2)), (41, .inr (.inl (s_sp_ic, (s_x_if_icmp .ge 48)))), (44, .inl (s_x_aload_n 1)), (45, .inl (s_x_getfield 107)), (48, .inl (s_x_iload_n 3)), (49, .inl s_x_iadd), (50, .inl (s_x_istore 6)), (52, .inl (s_x_iload 6)), (54, .inr (.inl (s_sp_if, (s_x_ifCond .lt 35)))), (57, .inl (s_x_iload 6)), (59, .inl (s_x_bipush 120)), (61, .inr (.inl (s_sp_ic, (s_x_if_icmp .gt 28))))]
theorem gw_99_1 : gj_99_1 = gi_99_1.map (fun e => (e.1, s_op e.2.1)) := rfl
noncomputable def gj_99_2 : List (Nat × sOp) := [(64, .inl (s_x_aload_n 0)), (65, .inl (s_x_aload_n 1)), (66, .inl (s_x_iload 6)), (68, .inr (.inr (.inr (1, 184)))), (71, .inr (.inl (s_sp_if, (s_x_ifCond .eq 6)))), (74, .inl (s_x_goto 15)), (77, .inl (s_x_aload_n 1)), (78, .inl (s_x_iload 6)), (80, .inr (.inr (.inr (1, 191)))), (83, .inl (s_x_iinc 5 1)), (86, .inl (s_x_goto (-48))), (89, .inl (s_x_aload_n 0)), (90, .inl (s_x_aload_n 1)), (91, .inl (s_x_iload 4)), (93, .inr (.inr (.inr (1, 201))))]
theorem gw_99_2 : gj_99_2 = gi_99_2.map (fun e => (e.1, s_op e.2.1)) := rfl
noncomputable def gj_99_3 : List (Nat × sOp) := [(96, .inr (.inr (.inl 4)))]
theorem gw_99_3 : gj_99_3 = gi_99_3.map (fun e => (e.1, s_op e.2.1)) := rfl
noncomputable def gj_99 : List (List (Nat × sOp)) := [gj_99_0, gj_99_1, gj_99_2, gj_99_3]
theorem gw_99 : gj_99 = gi_99.map (fun ch => ch.map (fun e => (e.1, s_op e.2.1))) := by
  unfold gj_99 gi_99
  simp only [gw_99_0, gw_99_1, gw_99_2, gw_99_3, List.map_cons, List.map_nil]
noncomputable def gj_100_0 : List (Nat × sOp) := [(0, .inl (s_x_aload_n 0)), (1, .inl s_x_dup), (2, .inl (s_x_getfield 66)), (5, .inl (s_x_iconst 1)), (6, .inl s_x_iadd), (7, .inl (s_x_putfield 66)), (10, .inl (s_x_aload_n 0)), (11, .inr (.inr (.inr (1, 205)))), (14, .inl (s_x_iload_n 1)), (15, .inl (s_x_iconst (-1))), (16, .inr (.inl (s_sp_ic, (s_x_if_icmp .eq 16)))), (19, .inl (s_x_iload_n 1)), (20, .inl (s_x_aload_n 0)), (21, .inl (s_x_getfield 44)), (24, .inr (.inl (s_sp_ic, (s_x_if_icmp .ge 8)))), (27, .inl (s_x_aload_n 0)), (28, .inl (s_x_iload_n 1)), (29, .inr (.inr (.inr (1, 208))))]
theorem gw_100_0 : gj_100_0 = gi_100_0.map (fun e => (e.1, s_op e.2.1)) := rfl
noncomputable def gj_100_1 : List (Nat × sOp) := [(32, .inr (.inr (.inl 4)))]
theorem gw_100_1 : gj_100_1 = gi_100_1.map (fun e => (e.1, s_op e.2.1)) := rfl
noncomputable def gj_100 : List (List (Nat × sOp)) := [gj_100_0, gj_100_1]
theorem gw_100 : gj_100 = gi_100.map (fun ch => ch.map (fun e => (e.1, s_op e.2.1))) := by
  unfold gj_100 gi_100
  simp only [gw_100_0, gw_100_1, List.map_cons, List.map_nil]
noncomputable def gj_101_0 : List (Nat × sOp) := [(0, .inl (s_x_aload_n 0)), (1, .inl s_x_dup), (2, .inl (s_x_getfield 53)), (5, .inl (s_x_iconst 1)), (6, .inl s_x_iadd), (7, .inl (s_x_putfield 53)), (10, .inl (s_x_iconst 0)), (11, .inl (s_x_istore_n 1)), (12, .inl (s_x_iload_n 1)), (13, .inl (s_x_aload_n 0)), (14, .inl (s_x_getfield 37)), (17, .inr (.inl (s_sp_ic, (s_x_if_icmp .ge 27)))), (20, .inl (s_x_aload_n 0)), (21, .inl (s_x_getfield 23)), (24, .inl (s_x_iload_n 1)), (25, .inl s_x_aaload), (26, .inl (s_x_aload_n 0)), (27, .inl (s_x_getfield 23)), (30, .inl (s_x_iload_n 1)), (31, .inl s_x_aaload)]
theorem gw_101_0 : gj_101_0 = gi_101_0.map (fun e => (e.1, s_op e.2.1)) := rfl
noncomputable def gj_101_1 : List (Nat × sOp) := [(32, .inl (s_x_getfield 107)), (35, .inl (s_x_putfield 110)), (38, .inl (s_x_iinc 1 1)), (41, .inl (s_x_goto (-29))), (44, .inl (s_x_aload_n 0)), (45, .inl (s_x_getfield 15)), (48, .inl (s_x_iconst (-1))), (49, .inr (.inl (s_sp_ic, (s_x_if_icmp .eq 22)))), (52, .inl (s_x_aload_n 0)), (53, .inl (s_x_getfield 56)), (56, .inr (.inl (s_sp_if, (s_x_ifCond .ne 15)))), (59, .inl (s_x_aload_n 0)), (60, .inl (s_x_aload_n 0)), (61, .inl (s_x_aload_n 0)), (62, .inl (s_x_getfield 15))]
theorem gw_101_1 : gj_101_1 = gi_101_1.map (fun e => (e.1, s_op e.2.1)) := rfl
noncomputable def gj_101_2 : List (Nat × sOp) := [(65, .inr (.inr (.inr (1, 96)))), (68, .inr (.inr (.inr (1, 113)))), (71, .inl (s_x_iconst 0)), (72, .inl (s_x_istore_n 1)), (73, .inl (s_x_iload_n 1)), (74, .inl (s_x_aload_n 0)), (75, .inl (s_x_getfield 37)), (78, .inr (.inl (s_sp_ic, (s_x_if_icmp .ge 52)))), (81, .inl (s_x_aload_n 0)), (82, .inl (s_x_getfield 23)), (85, .inl (s_x_iload_n 1)), (86, .inl s_x_aaload), (87, .inl (s_x_getfield 93)), (90, .inr (.inl (s_sp_if, (s_x_ifCond .eq 34)))), (93, .inl (s_x_aload_n 0)), (94, .inl (s_x_getfield 23))]
theorem gw_101_2 : gj_101_2 = gi_101_2.map (fun e => (e.1, s_op e.2.1)) := rfl
noncomputable def gj_101_3 : List (Nat × sOp) := [(97, .inl (s_x_iload_n 1)), (98, .inl s_x_aaload), (99, .inl (s_x_getfield 107)), (102, .inl (s_x_aload_n 0)), (103, .inl (s_x_getfield 23)), (106, .inl (s_x_iload_n 1)), (107, .inl s_x_aaload), (108, .inl (s_x_getfield 110)), (111, .inr (.inl (s_sp_ic, (s_x_if_icmp .ne 13)))), (114, .inl (s_x_aload_n 0)), (115, .inl (s_x_aload_n 0)), (116, .inl (s_x_getfield 23)), (119, .inl (s_x_iload_n 1)), (120, .inl s_x_aaload), (121, .inr (.inr (.inr (1, 116)))), (124, .inl (s_x_iinc 1 1)), (127, .inl (s_x_goto (-54)))]
theorem gw_101_3 : gj_101_3 = gi_101_3.map (fun e => (e.1, s_op e.2.1)) := rfl
noncomputable def gj_101_4 : List (Nat × sOp) := [(130, .inl (s_x_aload_n 0)), (131, .inl (s_x_getfield 15)), (134, .inl (s_x_iconst (-1))), (135, .inr (.inl (s_sp_ic, (s_x_if_icmp .eq 25)))), (138, .inl (s_x_aload_n 0)), (139, .inr (.inr (.inr (1, 119)))), (142, .inr (.inl (s_sp_if, (s_x_ifCond .ne 18)))), (145, .inl (s_x_aload_n 0)), (146, .inl (s_x_aload_n 0)), (147, .inl (s_x_aload_n 0)), (148, .inl (s_x_getfield 15)), (151, .inr (.inr (.inr (1, 96)))), (154, .inl (s_x_getfield 120)), (157, .inr (.inr (.inr (1, 123))))]
theorem gw_101_4 : gj_101_4 = gi_101_4.map (fun e => (e.1, s_op e.2.1)) := rfl
noncomputable def gj_101_5 : List (Nat × sOp) := [(160, .inr (.inr (.inl 4)))]
theorem gw_101_5 : gj_101_5 = gi_101_5.map (fun e => (e.1, s_op e.2.1)) := rfl
noncomputable def gj_101 : List (List (Nat × sOp)) := [gj_101_0, gj_101_1, gj_101_2, gj_101_3, gj_101_4, gj_101_5]
theorem gw_101 : gj_101 = gi_101.map (fun ch => ch.map (fun e => (e.1, s_op e.2.1))) := by
  unfold gj_101 gi_101
  simp only [gw_101_0, gw_101_1, gw_101_2, gw_101_3, gw_101_4, gw_101_5, List.map_cons, List.map_nil]
noncomputable def gj_102_0 : List (Nat × sOp) := [(0, .inl (s_x_iload_n 1)), (1, .inl (s_x_iconst 1)), (2, .inr (.inl (s_sp_ic, (s_x_if_icmp .lt 9)))), (5, .inl (s_x_iload_n 1)), (6, .inl (s_x_bipush 120)), (8, .inr (.inl (s_sp_ic, (s_x_if_icmp .le 13)))), (11, .inl (s_x_new 30)), (14, .inl s_x_dup), (15, .inl (s_x_ldc 210)), (17, .inr (.inr (.inr (2, 34)))), (20, .inl s_x_no), (21, .inl (s_x_aload_n 0)), (22, .inl (s_x_getfield 10)), (25, .inl (s_x_getfield 212)), (28, .inl (s_x_iload_n 1)), (29, .inl s_x_iadd), (30, .inl (s_x_sipush 3000))]
theorem gw_102_0 : gj_102_0 = gi_102_0.map (fun e => (e.1, s_op e.2.1)) := rfl
noncomputable def gj_102_1 : List (Nat × sOp) := [(33, .inr (.inl (s_sp_ic, (s_x_if_icmp .le 13)))), (36, .inl (s_x_new 41)), (39, .inl s_x_dup), (40, .inl (s_x_ldc 215)), (42, .inr (.inr (.inr (2, 45)))), (45, .inl s_x_no), (46, .inl (s_x_aload_n 0)), (47, .inl (s_x_getfield 10)), (50, .inl (s_x_getfield 217)), (53, .inl (s_x_istore_n 2)), (54, .inl (s_x_iconst 0)), (55, .inl (s_x_istore_n 3)), (56, .inl (s_x_iload_n 3)), (57, .inl (s_x_iload_n 1)), (58, .inr (.inl (s_sp_ic, (s_x_if_icmp .ge 16)))), (61, .inl (s_x_aload_n 0)), (62, .inl (s_x_getfield 10))]
theorem gw_102_1 : gj_102_1 = gi_102_1.map (fun e => (e.1, s_op e.2.1)) := rfl
noncomputable def gj_102_2 : List (Nat × sOp) := [(65, .inr (.inr (.inr (1, 220)))), (68, .inl (s_x_iinc 3 1)), (71, .inl (s_x_goto (-15))), (74, .inl (s_x_aload_n 0)), (75, .inl (s_x_getfield 10)), (78, .inl (s_x_getfield 217)), (81, .inl (s_x_iload_n 2)), (82, .inl s_x_isub), (83, .inr (.inr (.inl 0)))]
theorem gw_102_2 : gj_102_2 = gi_102_2.map (fun e => (e.1, s_op e.2.1)) := rfl
noncomputable def gj_102 : List (List (Nat × sOp)) := [gj_102_0, gj_102_1, gj_102_2]
theorem gw_102 : gj_102 = gi_102.map (fun ch => ch.map (fun e => (e.1, s_op e.2.1))) := by
  unfold gj_102 gi_102
  simp only [gw_102_0, gw_102_1, gw_102_2, List.map_cons, List.map_nil]
noncomputable def gj_103_0 : List (Nat × sOp) := [(0, .inl (s_x_aload_n 2)), (1, .inl (s_x_iconst 0)), (2, .inl (s_x_aload_n 0)), (3, .inl (s_x_iload_n 1)), (4, .inr (.inr (.inr (1, 63)))), (7, .inl s_x_i2l), (8, .inl s_x_lastore), (9, .inl (s_x_goto 9)), (12, .inl (s_x_astore_n 3)), (13, .inl (s_x_iconst 1)), (14, .inr (.inr (.inl 0))), (15, .inl (s_x_astore_n 3)), (16, .inl (s_x_iconst 2)), (17, .inr (.inr (.inl 0))), (18, .inl (s_x_iconst 0)), (19, .inr (.inr (.inl 0)))]
theorem gw_103_0 : gj_103_0 = gi_103_0.map (fun e => (e.1, s_op e.2.1)) := rfl
noncomputable def gj_103 : List (List (Nat × sOp)) := [gj_103_0]
theorem gw_103 : gj_103 = gi_103.map (fun ch => ch.map (fun e => (e.1, s_op e.2.1))) := by
  unfold gj_103 gi_103
  simp only [gw_103_0, List.map_cons, List.map_nil]
noncomputable def gj_104_0 : List (Nat × sOp) := [(0, .inl (s_x_aload_n 0)), (1, .inl (s_x_getfield 12)), (4, .inl (s_x_iload_n 1)), (5, .inr (.inr (.inr (1, 71)))), (8, .inl s_x_no), (11, .inl (s_x_astore 4)), (13, .inl (s_x_aload_n 0)), (14, .inl (s_x_getfield 12)), (17, .inl (s_x_iload_n 3)), (18, .inr (.inr (.inr (1, 71)))), (21, .inl s_x_no), (24, .inl (s_x_astore 5)), (26, .inl (s_x_iload_n 1)), (27, .inl (s_x_iload_n 3)), (28, .inr (.inl (s_sp_ic, (s_x_if_icmp .eq 23)))), (31, .inl (s_x_iload_n 1))]
theorem gw_104_0 : gj_104_0 = gi_104_0.map (fun e => (e.1, s_op e.2.1)) := rfl
noncomputable def gj_104_1 : List (Nat × sOp) := [(32, .inl (s_x_iload_n 3)), (33, .inl s_x_isub), (34, .inr (.inr (.inr (0, 75)))), (37, .inl (s_x_aload 4)), (39, .inl (s_x_bipush 10)), (41, .inr (.inl (s_sp_ia, s_x_iaload))), (42, .inl (s_x_aload 5)), (44, .inl (s_x_bipush 10)), (46, .inr (.inl (s_sp_ia, s_x_iaload))), (47, .inl s_x_iadd), (48, .inr (.inl (s_sp_ic, (s_x_if_icmp .le 5)))), (51, .inl (s_x_iconst 0)), (52, .inr (.inr (.inl 0))), (53, .inl (s_x_iload_n 2)), (54, .inl (s_x_aload 4)), (56, .inl (s_x_bipush 9)), (58, .inr (.inl (s_sp_ia, s_x_iaload))), (59, .inl s_x_isub), (60, .inl (s_x_aload 5)), (62, .inl (s_x_iconst 2)), (63, .inr (.inl (s_sp_ia, s_x_iaload)))]
theorem gw_104_1 : gj_104_1 = gi_104_1.map (fun e => (e.1, s_op e.2.1)) := rfl
noncomputable def gj_104_2 : List (Nat × sOp) := [(64, .inr (.inl (s_sp_ic, (s_x_if_icmp .gt 21)))), (67, .inl (s_x_aload 5)), (69, .inl (s_x_iconst 2)), (70, .inr (.inl (s_sp_ia, s_x_iaload))), (71, .inl (s_x_aload 5)), (73, .inl (s_x_bipush 9)), (75, .inr (.inl (s_sp_ia, s_x_iaload))), (76, .inl s_x_isub), (77, .inl (s_x_iload_n 2)), (78, .inr (.inl (s_sp_ic, (s_x_if_icmp .gt 7)))), (81, .inl (s_x_iconst 1)), (82, .inl (s_x_goto 4)), (85, .inl (s_x_iconst 0)), (86, .inr (.inr (.inl 0)))]
theorem gw_104_2 : gj_104_2 = gi_104_2.map (fun e => (e.1, s_op e.2.1)) := rfl
noncomputable def gj_104 : List (List (Nat × sOp)) := [gj_104_0, gj_104_1, gj_104_2]
theorem gw_104 : gj_104 = gi_104.map (fun ch => ch.map (fun e => (e.1, s_op e.2.1))) := by
  unfold gj_104 gi_104
  simp only [gw_104_0, gw_104_1, gw_104_2, List.map_cons, List.map_nil]
noncomputable def gj_105_0 : List (Nat × sOp) := [(0, .inl (s_x_iconst 0)), (1, .inl (s_x_istore_n 3)), (2, .inl (s_x_iload_n 3)), (3, .inl (s_x_aload_n 0)), (4, .inl (s_x_getfield 12)), (7, .inr (.inr (.inr (1, 81)))), (10, .inr (.inl (s_sp_ic, (s_x_if_icmp .ge 43)))), (13, .inl (s_x_aload_n 0)), (14, .inl (s_x_iload_n 1)), (15, .inl (s_x_iload_n 2)), (16, .inl (s_x_iload_n 3)), (17, .inr (.inr (.inr (1, 85)))), (20, .inr (.inl (s_sp_if, (s_x_ifCond .eq 27)))), (23, .inl (s_x_aload_n 0)), (24, .inl (s_x_iload_n 1)), (25, .inl (s_x_aload_n 0)), (26, .inl (s_x_getfield 12)), (29, .inl (s_x_iload_n 1)), (30, .inr (.inr (.inr (1, 71))))]
theorem gw_105_0 : gj_105_0 = gi_105_0.map (fun e => (e.1, s_op e.2.1)) := rfl
noncomputable def gj_105_1 : List (Nat × sOp) := [(33, .inl s_x_no), (36, .inl (s_x_iconst 2)), (37, .inr (.inl (s_sp_ia, s_x_iaload))), (38, .inl (s_x_iload_n 3)), (39, .inr (.inr (.inr (1, 85)))), (42, .inr (.inl (s_sp_if, (s_x_ifCond .ne 5)))), (45, .inl (s_x_iconst 1)), (46, .inr (.inr (.inl 0))), (47, .inl (s_x_iinc 3 1)), (50, .inl (s_x_goto (-48))), (53, .inl (s_x_iconst 0)), (54, .inr (.inr (.inl 0)))]
theorem gw_105_1 : gj_105_1 = gi_105_1.map (fun e => (e.1, s_op e.2.1)) := rfl
noncomputable def gj_105 : List (List (Nat × sOp)) := [gj_105_0, gj_105_1]
theorem gw_105 : gj_105 = gi_105.map (fun ch => ch.map (fun e => (e.1, s_op e.2.1))) := by
  unfold gj_105 gi_105
  simp only [gw_105_0, gw_105_1, List.map_cons, List.map_nil]
noncomputable def gj_106_0 : List (Nat × sOp) := [(0, .inl (s_x_aload_n 0)), (1, .inl (s_x_getfield 12)), (4, .inl (s_x_iload_n 1)), (5, .inr (.inr (.inr (1, 71)))), (8, .inl s_x_no), (11, .inl (s_x_astore_n 3)), (12, .inl (s_x_aload_n 3)), (13, .inl (s_x_bipush 7)), (15, .inl s_x_dup2), (16, .inr (.inl (s_sp_ia, s_x_iaload))), (17, .inl (s_x_iload_n 2)), (18, .inl (s_x_aload_n 3)), (19, .inl (s_x_iconst 2)), (20, .inr (.inl (s_sp_ia, s_x_iaload))), (21, .inl s_x_isub), (22, .inr (.inr (.inr (0, 75)))), (25, .inl s_x_iadd), (26, .inl s_x_iastore), (27, .inl (s_x_aload_n 3)), (28, .inl (s_x_iconst 2)), (29, .inl (s_x_iload_n 2)), (30, .inl s_x_iastore), (31, .inr (.inr (.inl 4)))]
theorem gw_106_0 : gj_106_0 = gi_106_0.map (fun e => (e.1, s_op e.2.1)) := rfl
noncomputable def gj_106 : List (List (Nat × sOp)) := [gj_106_0]
theorem gw_106 : gj_106 = gi_106.map (fun ch => ch.map (fun e => (e.1, s_op e.2.1))) := by
  unfold gj_106 gi_106
  simp only [gw_106_0, List.map_cons, List.map_nil]
noncomputable def gj_107_0 : List (Nat × sOp) := [(0, .inl (s_x_aload_n 0)), (1, .inl (s_x_getfield 12)), (4, .inl (s_x_aload_n 1)), (5, .inl (s_x_iconst 0)), (6, .inr (.inl (s_sp_ia, s_x_iaload))), (7, .inr (.inr (.inr (1, 71)))), (10, .inl s_x_no), (13, .inl (s_x_astore_n 2)), (14, .inl (s_x_aload_n 1)), (15, .inl (s_x_iconst 1)), (16, .inr (.inl (s_sp_ia, s_x_iaload))), (17, .inl (s_x_aload_n 2)), (18, .inl (s_x_iconst 2)), (19, .inr (.inl (s_sp_ia, s_x_iaload))), (20, .inl s_x_isub), (21, .inl (s_x_istore_n 3)), (22, .inl (s_x_aload_n 2)), (23, .inl (s_x_iconst 2)), (24, .inr (.inl (s_sp_ia, s_x_iaload))), (25, .inl (s_x_aload_n 1)), (26, .inl (s_x_iconst 2)), (27, .inr (.inl (s_sp_ia, s_x_iaload))), (28, .inl s_x_ineg), (29, .inl (s_x_aload_n 1)), (30, .inl (s_x_iconst 2)), (31, .inr (.inl (s_sp_ia, s_x_iaload)))]
theorem gw_107_0 : gj_107_0 = gi_107_0.map (fun e => (e.1, s_op e.2.1)) := rfl
noncomputable def gj_107_1 : List (Nat × sOp) := [(32, .inl (s_x_iload_n 3)), (33, .inr (.inr (.inr (0, 124)))), (36, .inr (.inr (.inr (0, 128)))), (39, .inl s_x_iadd), (40, .inl (s_x_istore 4)), (42, .inl (s_x_aload_n 0)), (43, .inl (s_x_aload_n 1)), (44, .inl (s_x_iconst 0)), (45, .inr (.inl (s_sp_ia, s_x_iaload))), (46, .inl (s_x_iload 4)), (48, .inr (.inr (.inr (1, 131)))), (51, .inr (.inl (s_sp_if, (s_x_ifCond .eq 35)))), (54, .inl (s_x_aload_n 0)), (55, .inl (s_x_iconst 1)), (56, .inl (s_x_putfield 64)), (59, .inl (s_x_aload_n 0)), (60, .inl s_x_dup), (61, .inl (s_x_getfield 135))]
theorem gw_107_1 : gj_107_1 = gi_107_1.map (fun e => (e.1, s_op e.2.1)) := rfl
noncomputable def gj_107_2 : List (Nat × sOp) := [(64, .inl (s_x_iconst 1)), (65, .inl s_x_iadd), (66, .inl (s_x_putfield 135)), (69, .inl (s_x_aload_n 0)), (70, .inl (s_x_getfield 32)), (73, .inl (s_x_iconst (-1))), (74, .inr (.inl (s_sp_ic, (s_x_if_icmp .ne 10)))), (77, .inl (s_x_aload_n 0)), (78, .inl (s_x_aload_n 1)), (79, .inl (s_x_iconst 0)), (80, .inr (.inl (s_sp_ia, s_x_iaload))), (81, .inl (s_x_putfield 32)), (84, .inl (s_x_iconst 0)), (85, .inr (.inr (.inl 0))), (86, .inl (s_x_aload_n 0)), (87, .inl (s_x_aload_n 1)), (88, .inl (s_x_iconst 0)), (89, .inr (.inl (s_sp_ia, s_x_iaload))), (90, .inl (s_x_iload 4)), (92, .inr (.inr (.inr (1, 138)))), (95, .inl (s_x_iload 4))]
theorem gw_107_2 : gj_107_2 = gi_107_2.map (fun e => (e.1, s_op e.2.1)) := rfl
noncomputable def gj_107_3 : List (Nat × sOp) := [(97, .inl (s_x_aload_n 1)), (98, .inl (s_x_iconst 1)), (99, .inr (.inl (s_sp_ia, s_x_iaload))), (100, .inr (.inl (s_sp_ic, (s_x_if_icmp .eq 5)))), (103, .inl (s_x_iconst 0)), (104, .inr (.inr (.inl 0))), (105, .inl (s_x_aload_n 1)), (106, .inl (s_x_iconst 4)), (107, .inl (s_x_iconst 1)), (108, .inl s_x_iastore), (109, .inl (s_x_iconst 1)), (110, .inr (.inr (.inl 0)))]
theorem gw_107_3 : gj_107_3 = gi_107_3.map (fun e => (e.1, s_op e.2.1)) := rfl
noncomputable def gj_107 : List (List (Nat × sOp)) := [gj_107_0, gj_107_1, gj_107_2, gj_107_3]
theorem gw_107 : gj_107 = gi_107.map (fun ch => ch.map (fun e => (e.1, s_op e.2.1))) := by
  unfold gj_107 gi_107
  simp only [gw_107_0, gw_107_1, gw_107_2, gw_107_3, List.map_cons, List.map_nil]
noncomputable def gj_108_0 : List (Nat × sOp) := [(0, .inl (s_x_iconst 0)), (1, .inl (s_x_istore_n 1)), (2, .inl (s_x_iconst 0)), (3, .inl (s_x_istore_n 2)), (4, .inl (s_x_aload_n 0)), (5, .inl s_x_dup), (6, .inl (s_x_getfield 68)), (9, .inl (s_x_iconst 1)), (10, .inl s_x_iadd), (11, .inl (s_x_putfield 68)), (14, .inl (s_x_aload_n 0)), (15, .inl (s_x_getfield 18)), (18, .inl (s_x_aload_n 0)), (19, .inl (s_x_getfield 29)), (22, .inr (.inr (.inr (1, 71)))), (25, .inl s_x_no), (28, .inr (.inr (.inr (1, 36)))), (31, .inl (s_x_astore_n 3))]
theorem gw_108_0 : gj_108_0 = gi_108_0.map (fun e => (e.1, s_op e.2.1)) := rfl
noncomputable def gj_108_1 : List (Nat × sOp) := [(32, .inl (s_x_aload_n 3)), (33, .inr (.inr (.inr (3, 40)))), (38, .inr (.inl (s_sp_if, (s_x_ifCond .eq 179)))), (41, .inl (s_x_aload_n 3)), (42, .inr (.inr (.inr (3, 46)))), (47, .inl s_x_no), (50, .inl (s_x_astore 4)), (52, .inl (s_x_aload 4)), (54, .inl (s_x_iconst 4)), (55, .inr (.inl (s_sp_ia, s_x_iaload))), (56, .inr (.inl (s_sp_if, (s_x_ifCond .ne (-24))))), (59, .inl (s_x_aload 4)), (61, .inl (s_x_iconst 3)), (62, .inr (.inl (s_sp_ia, s_x_iaload))), (63, .inl (s_x_aload_n 0))]
theorem gw_108_1 : gj_108_1 = gi_108_1.map (fun e => (e.1, s_op e.2.1)) := rfl
noncomputable def gj_108_2 : List (Nat × sOp) := [(64, .inl (s_x_getfield 68)), (67, .inl (s_x_iconst 1)), (68, .inl s_x_isub), (69, .inr (.inl (s_sp_ic, (s_x_if_icmp .gt (-37))))), (72, .inl (s_x_aload_n 0)), (73, .inl (s_x_getfield 64)), (76, .inr (.inl (s_sp_if, (s_x_ifCond .eq 6)))), (79, .inl (s_x_goto (-47))), (82, .inl (s_x_aload_n 0)), (83, .inl (s_x_getfield 12)), (86, .inl (s_x_aload 4)), (88, .inl (s_x_iconst 0)), (89, .inr (.inl (s_sp_ia, s_x_iaload))), (90, .inr (.inr (.inr (1, 71)))), (93, .inl s_x_no)]
theorem gw_108_2 : gj_108_2 = gi_108_2.map (fun e => (e.1, s_op e.2.1)) := rfl
noncomputable def gj_108_3 : List (Nat × sOp) := [(96, .inl (s_x_astore 5)), (98, .inl (s_x_aload 5)), (100, .inl (s_x_iconst 0)), (101, .inr (.inl (s_sp_ia, s_x_iaload))), (102, .inr (.inl (s_sp_if, (s_x_ifCond .ne 7)))), (105, .inl (s_x_iconst 1)), (106, .inl (s_x_goto 4)), (109, .inl (s_x_iconst 0)), (110, .inl (s_x_istore 6)), (112, .inl (s_x_aload 5)), (114, .inr (.inr (.inr (0, 111)))), (117, .inr (.inr (.inr (0, 75)))), (120, .inl (s_x_bipush 10)), (122, .inr (.inl (s_sp_ic, (s_x_if_icmp .le 21)))), (125, .inl (s_x_aload 4)), (127, .inl (s_x_iconst 4))]
theorem gw_108_3 : gj_108_3 = gi_108_3.map (fun e => (e.1, s_op e.2.1)) := rfl
noncomputable def gj_108_4 : List (Nat × sOp) := [(128, .inl (s_x_iconst 2)), (129, .inl s_x_iastore), (130, .inl (s_x_aload_n 0)), (131, .inl s_x_dup), (132, .inl (s_x_getfield 115)), (135, .inl (s_x_iconst 1)), (136, .inl s_x_iadd), (137, .inl (s_x_putfield 115)), (140, .inl (s_x_goto 74)), (143, .inl (s_x_iload 6)), (145, .inr (.inl (s_sp_if, (s_x_ifCond .eq 11)))), (148, .inl (s_x_iload_n 2)), (149, .inl (s_x_aload_n 0)), (150, .inl (s_x_getfield 25)), (153, .inr (.inl (s_sp_ic, (s_x_if_icmp .eq 18)))), (156, .inl (s_x_aload 5)), (158, .inl (s_x_iconst 4)), (159, .inr (.inl (s_sp_ia, s_x_iaload)))]
theorem gw_108_4 : gj_108_4 = gi_108_4.map (fun e => (e.1, s_op e.2.1)) := rfl
noncomputable def gj_108_5 : List (Nat × sOp) := [(160, .inl (s_x_iconst 1)), (161, .inr (.inl (s_sp_ic, (s_x_if_icmp .ne 31)))), (164, .inl (s_x_aload 5)), (166, .inl (s_x_iconst 5)), (167, .inr (.inl (s_sp_ia, s_x_iaload))), (168, .inr (.inl (s_sp_if, (s_x_ifCond .ne 24)))), (171, .inl (s_x_aload 4)), (173, .inl (s_x_iconst 5)), (174, .inl s_x_dup2), (175, .inr (.inl (s_sp_ia, s_x_iaload))), (176, .inl (s_x_iconst 1)), (177, .inl s_x_iadd), (178, .inl s_x_iastore), (179, .inl (s_x_aload_n 0)), (180, .inl s_x_dup), (181, .inl (s_x_getfield 118)), (184, .inl (s_x_iconst 1)), (185, .inl s_x_iadd), (186, .inl (s_x_putfield 118)), (189, .inl (s_x_goto 25))]
theorem gw_108_5 : gj_108_5 = gi_108_5.map (fun e => (e.1, s_op e.2.1)) := rfl
noncomputable def gj_108_6 : List (Nat × sOp) := [(192, .inl (s_x_iload_n 2)), (193, .inl (s_x_iload 6)), (195, .inr (.inl (s_sp_if, (s_x_ifCond .eq 7)))), (198, .inl (s_x_iconst 1)), (199, .inl (s_x_goto 4)), (202, .inl (s_x_iconst 0)), (203, .inl s_x_iadd), (204, .inl (s_x_istore_n 2)), (205, .inl (s_x_iload_n 1)), (206, .inl (s_x_aload_n 0)), (207, .inl (s_x_aload 4)), (209, .inr (.inr (.inr (1, 121)))), (212, .inl s_x_iadd), (213, .inl (s_x_istore_n 1)), (214, .inl (s_x_goto (-182))), (217, .inl (s_x_iload_n 1)), (218, .inr (.inr (.inl 0)))]
theorem gw_108_6 : gj_108_6 = gi_108_6.map (fun e => (e.1, s_op e.2.1)) := rfl
noncomputable def gj_108 : List (List (Nat × sOp)) := [gj_108_0, gj_108_1, gj_108_2, gj_108_3, gj_108_4, gj_108_5, gj_108_6]
theorem gw_108 : gj_108 = gi_108.map (fun ch => ch.map (fun e => (e.1, s_op e.2.1))) := by
  unfold gj_108 gi_108
  simp only [gw_108_0, gw_108_1, gw_108_2, gw_108_3, gw_108_4, gw_108_5, gw_108_6, List.map_cons, List.map_nil]
noncomputable def gj_109_0 : List (Nat × sOp) := [(0, .inl (s_x_aload_n 0)), (1, .inl (s_x_getfield 12)), (4, .inl (s_x_iload_n 1)), (5, .inr (.inr (.inr (1, 71)))), (8, .inl s_x_no), (11, .inl (s_x_astore_n 2)), (12, .inl (s_x_aload_n 2)), (13, .inr (.inr (.inr (0, 111)))), (16, .inl (s_x_istore_n 3)), (17, .inl (s_x_bipush 8)), (19, .inl (s_x_iload_n 3)), (20, .inr (.inr (.inr (0, 75)))), (23, .inl (s_x_bipush 9)), (25, .inl s_x_iadd), (26, .inl (s_x_bipush 10)), (28, .inl s_x_no), (29, .inr (.inr (.inr (0, 124))))]
theorem gw_109_0 : gj_109_0 = gi_109_0.map (fun e => (e.1, s_op e.2.1)) := rfl
noncomputable def gj_109_1 : List (Nat × sOp) := [(32, .inl (s_x_istore 4)), (34, .inl (s_x_iload_n 3)), (35, .inr (.inl (s_sp_if, (s_x_ifCond .le 7)))), (38, .inl (s_x_iconst (-1))), (39, .inl (s_x_goto 4)), (42, .inl (s_x_iconst 1)), (43, .inl (s_x_istore 5)), (45, .inl (s_x_iconst 0)), (46, .inl (s_x_istore 6)), (48, .inl (s_x_iload 4)), (50, .inr (.inl (s_sp_if, (s_x_ifCond .le 51)))), (53, .inl (s_x_aload_n 2)), (54, .inl (s_x_iconst 2)), (55, .inr (.inl (s_sp_ia, s_x_iaload))), (56, .inl (s_x_iload 5)), (58, .inl s_x_iadd), (59, .inl (s_x_istore 7)), (61, .inl (s_x_iload 7)), (63, .inl (s_x_iconst 0))]
theorem gw_109_1 : gj_109_1 = gi_109_1.map (fun e => (e.1, s_op e.2.1)) := rfl
noncomputable def gj_109_2 : List (Nat × sOp) := [(64, .inl (s_x_bipush 120)), (66, .inr (.inr (.inr (0, 142)))), (69, .inr (.inl (s_sp_if, (s_x_ifCond .eq 32)))), (72, .inl (s_x_aload_n 0)), (73, .inl (s_x_iload_n 1)), (74, .inl (s_x_iload 7)), (76, .inr (.inr (.inr (1, 131)))), (79, .inr (.inl (s_sp_if, (s_x_ifCond .eq 6)))), (82, .inl (s_x_goto 19)), (85, .inl (s_x_aload_n 0)), (86, .inl (s_x_iload_n 1)), (87, .inl (s_x_iload 7)), (89, .inr (.inr (.inr (1, 138)))), (92, .inl (s_x_iinc 6 1)), (95, .inl (s_x_iinc 4 (-1)))]
theorem gw_109_2 : gj_109_2 = gi_109_2.map (fun e => (e.1, s_op e.2.1)) := rfl
noncomputable def gj_109_3 : List (Nat × sOp) := [(98, .inl (s_x_goto (-50))), (101, .inl (s_x_iload 6)), (103, .inl (s_x_iconst 4)), (104, .inr (.inl (s_sp_ic, (s_x_if_icmp .lt 27)))), (107, .inl (s_x_aload_n 2)), (108, .inl (s_x_iconst 2)), (109, .inr (.inl (s_sp_ia, s_x_iaload))), (110, .inr (.inl (s_sp_if, (s_x_ifCond .eq 11)))), (113, .inl (s_x_aload_n 2)), (114, .inl (s_x_iconst 2)), (115, .inr (.inl (s_sp_ia, s_x_iaload))), (116, .inl (s_x_bipush 120)), (118, .inr (.inl (s_sp_ic, (s_x_if_icmp .ne 13)))), (121, .inl (s_x_aload_n 0)), (122, .inl s_x_dup), (123, .inl (s_x_getfield 145)), (126, .inl (s_x_iconst 1)), (127, .inl s_x_iadd)]
theorem gw_109_3 : gj_109_3 = gi_109_3.map (fun e => (e.1, s_op e.2.1)) := rfl
noncomputable def gj_109_4 : List (Nat × sOp) := [(128, .inl (s_x_putfield 145)), (131, .inl (s_x_iload 6)), (133, .inr (.inl (s_sp_if, (s_x_ifCond .le 33)))), (136, .inl (s_x_iload 5)), (138, .inr (.inl (s_sp_if, (s_x_ifCond .ge 28)))), (141, .inl (s_x_aload_n 2)), (142, .inl (s_x_iconst 2)), (143, .inr (.inl (s_sp_ia, s_x_iaload))), (144, .inl (s_x_bipush 20)), (146, .inr (.inl (s_sp_ic, (s_x_if_icmp .gt 20)))), (149, .inl (s_x_aload_n 2)), (150, .inl (s_x_iconst 4)), (151, .inr (.inl (s_sp_ia, s_x_iaload))), (152, .inl (s_x_iconst 1)), (153, .inr (.inl (s_sp_ic, (s_x_if_icmp .ne 13)))), (156, .inl (s_x_aload_n 0)), (157, .inl s_x_dup), (158, .inl (s_x_getfield 148))]
theorem gw_109_4 : gj_109_4 = gi_109_4.map (fun e => (e.1, s_op e.2.1)) := rfl
noncomputable def gj_109_5 : List (Nat × sOp) := [(161, .inl (s_x_iconst 1)), (162, .inl s_x_iadd), (163, .inl (s_x_putfield 148)), (166, .inr (.inr (.inl 4)))]
theorem gw_109_5 : gj_109_5 = gi_109_5.map (fun e => (e.1, s_op e.2.1)) := rfl
noncomputable def gj_109 : List (List (Nat × sOp)) := [gj_109_0, gj_109_1, gj_109_2, gj_109_3, gj_109_4, gj_109_5]
theorem gw_109 : gj_109 = gi_109.map (fun ch => ch.map (fun e => (e.1, s_op e.2.1))) := by
  unfold gj_109 gi_109
  simp only [gw_109_0, gw_109_1, gw_109_2, gw_109_3, gw_109_4, gw_109_5, List.map_cons, List.map_nil]
