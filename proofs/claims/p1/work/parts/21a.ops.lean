noncomputable def gj_0_0 : List (Nat × sOp) := [(0, .inl (s_x_aload_n 0)), (1, .inr (.inr (.inr (2, 1)))), (4, .inl (s_x_aload_n 0)), (5, .inl (s_x_iconst 1)), (6, .inl (s_x_putfield 7)), (9, .inl (s_x_aload_n 0)), (10, .inl (s_x_iload_n 1)), (11, .inl (s_x_putfield 13)), (14, .inr (.inr (.inl 4)))]
theorem gw_0_0 : gj_0_0 = gi_0_0.map (fun e => (e.1, s_op e.2.1)) := rfl
noncomputable def gj_0 : List (List (Nat × sOp)) := [gj_0_0]
theorem gw_0 : gj_0 = gi_0.map (fun ch => ch.map (fun e => (e.1, s_op e.2.1))) := by
  unfold gj_0 gi_0
  simp only [gw_0_0, List.map_cons, List.map_nil]
noncomputable def gj_1_0 : List (Nat × sOp) := [(0, .inl (s_x_aload_n 0)), (1, .inr (.inr (.inr (2, 3)))), (4, .inl (s_x_aload_n 0)), (5, .inl (s_x_iconst (-1))), (6, .inl (s_x_putfield 9)), (9, .inr (.inr (.inl 4)))]
theorem gw_1_0 : gj_1_0 = gi_1_0.map (fun e => (e.1, s_op e.2.1)) := rfl
noncomputable def gj_1 : List (List (Nat × sOp)) := [gj_1_0]
theorem gw_1 : gj_1 = gi_1.map (fun ch => ch.map (fun e => (e.1, s_op e.2.1))) := by
  unfold gj_1 gi_1
  simp only [gw_1_0, List.map_cons, List.map_nil]
noncomputable def gj_2_0 : List (Nat × sOp) := [(0, .inl (s_x_aload_n 0)), (1, .inr (.inr (.inr (2, 3)))), (4, .inl (s_x_aload_n 0)), (5, .inl (s_x_iconst (-1))), (6, .inl (s_x_putfield 9)), (9, .inl (s_x_aload_n 0)), (10, .inl (s_x_bipush 6)), (12, .inl (s_x_anewarray 15)), (15, .inl (s_x_putfield 17)), (18, .inl (s_x_iconst 0)), (19, .inl (s_x_istore_n 1)), (20, .inl (s_x_iload_n 1)), (21, .inl (s_x_bipush 6)), (23, .inr (.inl (s_sp_ic, (s_x_if_icmp .ge 22)))), (26, .inl (s_x_aload_n 0)), (27, .inl (s_x_getfield 17)), (30, .inl (s_x_iload_n 1)), (31, .inl (s_x_new 15))]
theorem gw_2_0 : gj_2_0 = gi_2_0.map (fun e => (e.1, s_op e.2.1)) := rfl
noncomputable def gj_2_1 : List (Nat × sOp) := [(34, .inl s_x_dup), (35, .inr (.inr (.inr (2, 21)))), (38, .inl s_x_aastore), (39, .inl (s_x_iinc 1 1)), (42, .inl (s_x_goto (-22))), (45, .inr (.inr (.inl 4)))]
theorem gw_2_1 : gj_2_1 = gi_2_1.map (fun e => (e.1, s_op e.2.1)) := rfl
noncomputable def gj_2 : List (List (Nat × sOp)) := [gj_2_0, gj_2_1]
theorem gw_2 : gj_2 = gi_2.map (fun ch => ch.map (fun e => (e.1, s_op e.2.1))) := by
  unfold gj_2 gi_2
  simp only [gw_2_0, gw_2_1, List.map_cons, List.map_nil]
noncomputable def gj_3_0 : List (Nat × sOp) := [(0, .inl (s_x_aload_n 0)), (1, .inr (.inr (.inr (2, 3)))), (4, .inl (s_x_aload_n 0)), (5, .inl (s_x_iconst 2)), (6, .inl (s_x_putfield 9)), (9, .inl (s_x_aload_n 0)), (10, .inl (s_x_iconst (-1))), (11, .inl (s_x_putfield 15)), (14, .inl (s_x_aload_n 0)), (15, .inl (s_x_iconst (-1))), (16, .inl (s_x_putfield 18)), (19, .inl (s_x_aload_n 0)), (20, .inl (s_x_bipush 8)), (22, .inl (s_x_anewarray 21)), (25, .inl (s_x_putfield 23)), (28, .inl (s_x_iconst 0)), (29, .inl (s_x_istore_n 1)), (30, .inl (s_x_iload_n 1)), (31, .inl (s_x_bipush 8))]
theorem gw_3_0 : gj_3_0 = gi_3_0.map (fun e => (e.1, s_op e.2.1)) := rfl
noncomputable def gj_3_1 : List (Nat × sOp) := [(33, .inr (.inl (s_sp_ic, (s_x_if_icmp .ge 23)))), (36, .inl (s_x_aload_n 0)), (37, .inl (s_x_getfield 23)), (40, .inl (s_x_iload_n 1)), (41, .inl (s_x_new 21)), (44, .inl s_x_dup), (45, .inl (s_x_iload_n 1)), (46, .inr (.inr (.inr (2, 27)))), (49, .inl s_x_aastore), (50, .inl (s_x_iinc 1 1)), (53, .inl (s_x_goto (-23))), (56, .inl (s_x_aload_n 0)), (57, .inl (s_x_bipush 6)), (59, .inl (s_x_anewarray 30)), (62, .inl (s_x_putfield 32))]
theorem gw_3_1 : gj_3_1 = gi_3_1.map (fun e => (e.1, s_op e.2.1)) := rfl
noncomputable def gj_3_2 : List (Nat × sOp) := [(65, .inl (s_x_iconst 0)), (66, .inl (s_x_istore_n 1)), (67, .inl (s_x_iload_n 1)), (68, .inl (s_x_bipush 6)), (70, .inr (.inl (s_sp_ic, (s_x_if_icmp .ge 22)))), (73, .inl (s_x_aload_n 0)), (74, .inl (s_x_getfield 32)), (77, .inl (s_x_iload_n 1)), (78, .inl (s_x_new 30)), (81, .inl s_x_dup), (82, .inr (.inr (.inr (2, 36)))), (85, .inl s_x_aastore), (86, .inl (s_x_iinc 1 1)), (89, .inl (s_x_goto (-22))), (92, .inr (.inr (.inl 4)))]
theorem gw_3_2 : gj_3_2 = gi_3_2.map (fun e => (e.1, s_op e.2.1)) := rfl
noncomputable def gj_3 : List (List (Nat × sOp)) := [gj_3_0, gj_3_1, gj_3_2]
theorem gw_3 : gj_3 = gi_3.map (fun ch => ch.map (fun e => (e.1, s_op e.2.1))) := by
  unfold gj_3 gi_3
  simp only [gw_3_0, gw_3_1, gw_3_2, List.map_cons, List.map_nil]
noncomputable def gj_4_0 : List (Nat × sOp) := [(0, .inl (s_x_aload_n 0)), (1, .inr (.inr (.inr (2, 3)))), (4, .inl (s_x_aload_n 0)), (5, .inl (s_x_iconst (-1))), (6, .inl (s_x_putfield 9)), (9, .inr (.inr (.inl 4)))]
theorem gw_4_0 : gj_4_0 = gi_4_0.map (fun e => (e.1, s_op e.2.1)) := rfl
noncomputable def gj_4 : List (List (Nat × sOp)) := [gj_4_0]
theorem gw_4 : gj_4 = gi_4.map (fun ch => ch.map (fun e => (e.1, s_op e.2.1))) := by
  unfold gj_4 gi_4
  simp only [gw_4_0, List.map_cons, List.map_nil]
noncomputable def gj_5_0 : List (Nat × sOp) := [(0, .inl (s_x_aload_n 0)), (1, .inr (.inr (.inr (2, 1)))), (4, .inl (s_x_aload_n 0)), (5, .inl (s_x_new 7)), (8, .inl s_x_dup), (9, .inr (.inr (.inr (2, 9)))), (12, .inl (s_x_putfield 10)), (15, .inl (s_x_aload_n 0)), (16, .inl (s_x_new 7)), (19, .inl s_x_dup), (20, .inr (.inr (.inr (2, 9)))), (23, .inl (s_x_putfield 16)), (26, .inl (s_x_aload_n 0)), (27, .inl (s_x_bipush 10)), (29, .inl (s_x_anewarray 19))]
theorem gw_5_0 : gj_5_0 = gi_5_0.map (fun e => (e.1, s_op e.2.1)) := rfl
noncomputable def gj_5_1 : List (Nat × sOp) := [(32, .inl (s_x_putfield 21)), (35, .inl (s_x_iconst 0)), (36, .inl (s_x_istore_n 1)), (37, .inl (s_x_iload_n 1)), (38, .inl (s_x_bipush 10)), (40, .inr (.inl (s_sp_ic, (s_x_if_icmp .ge 22)))), (43, .inl (s_x_aload_n 0)), (44, .inl (s_x_getfield 21)), (47, .inl (s_x_iload_n 1)), (48, .inl (s_x_new 19)), (51, .inl s_x_dup), (52, .inr (.inr (.inr (2, 25)))), (55, .inl s_x_aastore), (56, .inl (s_x_iinc 1 1)), (59, .inl (s_x_goto (-22))), (62, .inl (s_x_aload_n 0)), (63, .inl (s_x_bipush 10))]
theorem gw_5_1 : gj_5_1 = gi_5_1.map (fun e => (e.1, s_op e.2.1)) := rfl
noncomputable def gj_5_2 : List (Nat × sOp) := [(65, .inl (s_x_newarray .int)), (67, .inl (s_x_putfield 26)), (70, .inr (.inr (.inl 4)))]
theorem gw_5_2 : gj_5_2 = gi_5_2.map (fun e => (e.1, s_op e.2.1)) := rfl
noncomputable def gj_5 : List (List (Nat × sOp)) := [gj_5_0, gj_5_1, gj_5_2]
theorem gw_5 : gj_5 = gi_5.map (fun ch => ch.map (fun e => (e.1, s_op e.2.1))) := by
  unfold gj_5 gi_5
  simp only [gw_5_0, gw_5_1, gw_5_2, List.map_cons, List.map_nil]
noncomputable def gj_6_0 : List (Nat × sOp) := [(0, .inl (s_x_aload_n 0)), (1, .inr (.inr (.inr (2, 1)))), (4, .inr (.inr (.inl 4)))]
theorem gw_6_0 : gj_6_0 = gi_6_0.map (fun e => (e.1, s_op e.2.1)) := rfl
noncomputable def gj_6 : List (List (Nat × sOp)) := [gj_6_0]
theorem gw_6 : gj_6 = gi_6.map (fun ch => ch.map (fun e => (e.1, s_op e.2.1))) := by
  unfold gj_6 gi_6
  simp only [gw_6_0, List.map_cons, List.map_nil]
noncomputable def gj_7_0 : List (Nat × sOp) := [(0, .inl (s_x_aload_n 0)), (1, .inr (.inr (.inr (2, 1)))), (4, .inl (s_x_aload_n 0)), (5, .inl (s_x_iconst 0)), (6, .inl (s_x_putfield 7)), (9, .inr (.inr (.inl 4)))]
theorem gw_7_0 : gj_7_0 = gi_7_0.map (fun e => (e.1, s_op e.2.1)) := rfl
noncomputable def gj_7 : List (List (Nat × sOp)) := [gj_7_0]
theorem gw_7 : gj_7 = gi_7.map (fun ch => ch.map (fun e => (e.1, s_op e.2.1))) := by
  unfold gj_7 gi_7
  simp only [gw_7_0, List.map_cons, List.map_nil]
noncomputable def gj_8_0 : List (Nat × sOp) := [(0, .inl (s_x_aload_n 0)), (1, .inr (.inr (.inr (2, 1)))), (4, .inl (s_x_aload_n 0)), (5, .inl (s_x_getstatic 39)), (8, .inl (s_x_putfield 9)), (11, .inr (.inr (.inl 4)))]
theorem gw_8_0 : gj_8_0 = gi_8_0.map (fun e => (e.1, s_op e.2.1)) := rfl
noncomputable def gj_8 : List (List (Nat × sOp)) := [gj_8_0]
theorem gw_8 : gj_8 = gi_8.map (fun ch => ch.map (fun e => (e.1, s_op e.2.1))) := by
  unfold gj_8 gi_8
  simp only [gw_8_0, List.map_cons, List.map_nil]
noncomputable def gj_9_0 : List (Nat × sOp) := [(0, .inl (s_x_aload_n 0)), (1, .inr (.inr (.inr (2, 3)))), (4, .inl (s_x_aload_n 0)), (5, .inl (s_x_new 9)), (8, .inl s_x_dup), (9, .inr (.inr (.inr (2, 11)))), (12, .inl (s_x_putfield 12)), (15, .inl (s_x_aload_n 0)), (16, .inl (s_x_new 9)), (19, .inl s_x_dup), (20, .inr (.inr (.inr (2, 11)))), (23, .inl (s_x_putfield 18)), (26, .inl (s_x_aload_n 0)), (27, .inl (s_x_bipush 6)), (29, .inl (s_x_newarray .int)), (31, .inl (s_x_putfield 21))]
theorem gw_9_0 : gj_9_0 = gi_9_0.map (fun e => (e.1, s_op e.2.1)) := rfl
noncomputable def gj_9_1 : List (Nat × sOp) := [(34, .inl (s_x_aload_n 0)), (35, .inl (s_x_iconst 2)), (36, .inl (s_x_putfield 25)), (39, .inl (s_x_aload_n 0)), (40, .inl (s_x_iconst (-1))), (41, .inl (s_x_putfield 29)), (44, .inl (s_x_aload_n 0)), (45, .inl (s_x_iconst (-1))), (46, .inl (s_x_putfield 32)), (49, .inr (.inr (.inl 4)))]
theorem gw_9_1 : gj_9_1 = gi_9_1.map (fun e => (e.1, s_op e.2.1)) := rfl
noncomputable def gj_9 : List (List (Nat × sOp)) := [gj_9_0, gj_9_1]
theorem gw_9 : gj_9 = gi_9.map (fun ch => ch.map (fun e => (e.1, s_op e.2.1))) := by
  unfold gj_9 gi_9
  simp only [gw_9_0, gw_9_1, List.map_cons, List.map_nil]
noncomputable def gj_10_0 : List (Nat × sOp) := [(0, .inl (s_x_aload_n 0)), (1, .inr (.inr (.inr (2, 1)))), (4, .inl (s_x_aload_n 0)), (5, .inl (s_x_new 7)), (8, .inl s_x_dup), (9, .inr (.inr (.inr (2, 9)))), (12, .inl (s_x_putfield 10)), (15, .inl (s_x_aload_n 0)), (16, .inl (s_x_new 16)), (19, .inl s_x_dup), (20, .inr (.inr (.inr (2, 18)))), (23, .inl (s_x_putfield 19)), (26, .inr (.inr (.inl 4)))]
theorem gw_10_0 : gj_10_0 = gi_10_0.map (fun e => (e.1, s_op e.2.1)) := rfl
noncomputable def gj_10 : List (List (Nat × sOp)) := [gj_10_0]
theorem gw_10 : gj_10 = gi_10.map (fun ch => ch.map (fun e => (e.1, s_op e.2.1))) := by
  unfold gj_10 gi_10
  simp only [gw_10_0, List.map_cons, List.map_nil]
noncomputable def gj_11_0 : List (Nat × sOp) := [(0, .inl (s_x_iload_n 2)), (1, .inl (s_x_bipush 10)), (3, .inr (.inl (s_sp_ic, (s_x_if_icmp .lt 10)))), (6, .inl (s_x_iload_n 2)), (7, .inl (s_x_sipush 300)), (10, .inr (.inl (s_sp_ic, (s_x_if_icmp .le 13)))), (13, .inl (s_x_new 30)), (16, .inl s_x_dup), (17, .inl (s_x_ldc 32)), (19, .inr (.inr (.inr (2, 34)))), (22, .inl s_x_no), (23, .inl (s_x_aload_n 0)), (24, .inl (s_x_getfield 10)), (27, .inl (s_x_getfield 37)), (30, .inl (s_x_bipush 8))]
theorem gw_11_0 : gj_11_0 = gi_11_0.map (fun e => (e.1, s_op e.2.1)) := rfl
noncomputable def gj_11_1 : List (Nat × sOp) := [(32, .inr (.inl (s_sp_ic, (s_x_if_icmp .lt 13)))), (35, .inl (s_x_new 41)), (38, .inl s_x_dup), (39, .inl (s_x_ldc 43)), (41, .inr (.inr (.inr (2, 45)))), (44, .inl s_x_no), (45, .inl (s_x_aload_n 0)), (46, .inl (s_x_getfield 10)), (49, .inl (s_x_getfield 46)), (52, .inl (s_x_aload_n 0)), (53, .inl (s_x_getfield 10)), (56, .inl (s_x_getfield 37)), (59, .inl s_x_aaload), (60, .inl (s_x_astore_n 3)), (61, .inl (s_x_aload_n 3)), (62, .inl (s_x_iload_n 1)), (63, .inl (s_x_putfield 50))]
theorem gw_11_1 : gj_11_1 = gi_11_1.map (fun e => (e.1, s_op e.2.1)) := rfl
noncomputable def gj_11_2 : List (Nat × sOp) := [(66, .inl (s_x_aload_n 3)), (67, .inl (s_x_iload_n 2)), (68, .inl (s_x_putfield 56)), (71, .inl (s_x_aload_n 0)), (72, .inl (s_x_getfield 10)), (75, .inl s_x_dup), (76, .inl (s_x_getfield 37)), (79, .inl (s_x_iconst 1)), (80, .inl s_x_iadd), (81, .inl (s_x_putfield 37)), (84, .inl (s_x_aload_n 3)), (85, .inl (s_x_getfield 59)), (88, .inr (.inr (.inl 0)))]
theorem gw_11_2 : gj_11_2 = gi_11_2.map (fun e => (e.1, s_op e.2.1)) := rfl
noncomputable def gj_11 : List (List (Nat × sOp)) := [gj_11_0, gj_11_1, gj_11_2]
theorem gw_11 : gj_11 = gi_11.map (fun ch => ch.map (fun e => (e.1, s_op e.2.1))) := by
  unfold gj_11 gi_11
  simp only [gw_11_0, gw_11_1, gw_11_2, List.map_cons, List.map_nil]
noncomputable def gj_12_0 : List (Nat × sOp) := [(0, .inl (s_x_aload_n 3)), (1, .inl (s_x_iconst 0)), (2, .inl (s_x_aload_n 0)), (3, .inl (s_x_iload_n 1)), (4, .inl (s_x_iload_n 2)), (5, .inr (.inr (.inr (1, 7)))), (8, .inl s_x_i2l), (9, .inl s_x_lastore), (10, .inl (s_x_goto 11)), (13, .inl (s_x_astore 4)), (15, .inl (s_x_iconst 1)), (16, .inr (.inr (.inl 0))), (17, .inl (s_x_astore 4)), (19, .inl (s_x_iconst 2)), (20, .inr (.inr (.inl 0))), (21, .inl (s_x_iconst 0)), (22, .inr (.inr (.inl 0)))]
theorem gw_12_0 : gj_12_0 = gi_12_0.map (fun e => (e.1, s_op e.2.1)) := rfl
noncomputable def gj_12 : List (List (Nat × sOp)) := [gj_12_0]
theorem gw_12 : gj_12 = gi_12.map (fun ch => ch.map (fun e => (e.1, s_op e.2.1))) := by
  unfold gj_12 gi_12
  simp only [gw_12_0, List.map_cons, List.map_nil]
noncomputable def gj_13_0 : List (Nat × sOp) := [(0, .inl (s_x_iload_n 0)), (1, .inl (s_x_iload_n 1)), (2, .inr (.inl (s_sp_ic, (s_x_if_icmp .lt 12)))), (5, .inl (s_x_iload_n 0)), (6, .inl (s_x_iload_n 2)), (7, .inr (.inl (s_sp_ic, (s_x_if_icmp .gt 7)))), (10, .inl (s_x_iconst 1)), (11, .inl (s_x_goto 4)), (14, .inl (s_x_iconst 0)), (15, .inr (.inr (.inl 0)))]
theorem gw_13_0 : gj_13_0 = gi_13_0.map (fun e => (e.1, s_op e.2.1)) := rfl
noncomputable def gj_13 : List (List (Nat × sOp)) := [gj_13_0]
theorem gw_13 : gj_13 = gi_13.map (fun ch => ch.map (fun e => (e.1, s_op e.2.1))) := by
  unfold gj_13 gi_13
  simp only [gw_13_0, List.map_cons, List.map_nil]
noncomputable def gj_14_0 : List (Nat × sOp) := [(0, .inl (s_x_aload_n 0)), (1, .inl (s_x_iload_n 1)), (2, .inl (s_x_putfield 23)), (5, .inl (s_x_iconst 0)), (6, .inr (.inr (.inl 0)))]
theorem gw_14_0 : gj_14_0 = gi_14_0.map (fun e => (e.1, s_op e.2.1)) := rfl
noncomputable def gj_14 : List (List (Nat × sOp)) := [gj_14_0]
theorem gw_14 : gj_14 = gi_14.map (fun ch => ch.map (fun e => (e.1, s_op e.2.1))) := by
  unfold gj_14 gi_14
  simp only [gw_14_0, List.map_cons, List.map_nil]
noncomputable def gj_15_0 : List (Nat × sOp) := [(0, .inl (s_x_aload_n 0)), (1, .inl (s_x_getfield 48)), (4, .inr (.inr (.inl 0)))]
theorem gw_15_0 : gj_15_0 = gi_15_0.map (fun e => (e.1, s_op e.2.1)) := rfl
noncomputable def gj_15 : List (List (Nat × sOp)) := [gj_15_0]
theorem gw_15 : gj_15 = gi_15.map (fun ch => ch.map (fun e => (e.1, s_op e.2.1))) := by
  unfold gj_15 gi_15
  simp only [gw_15_0, List.map_cons, List.map_nil]
noncomputable def gj_16_0 : List (Nat × sOp) := [(0, .inl (s_x_iload_n 0)), (1, .inl (s_x_iload_n 1)), (2, .inl s_x_iadd), (3, .inl (s_x_istore_n 2)), (4, .inl (s_x_iload_n 2)), (5, .inr (.inl (s_sp_if, (s_x_ifCond .ge 44)))), (8, .inl (s_x_new 204)), (11, .inl s_x_dup), (12, .inl (s_x_new 89)), (15, .inl s_x_dup), (16, .inr (.inr (.inr (2, 91)))), (19, .inl (s_x_ldc 206)), (21, .inr (.inr (.inr (1, 94)))), (24, .inl (s_x_iload_n 0)), (25, .inr (.inr (.inr (1, 98)))), (28, .inl (s_x_ldc 208)), (30, .inr (.inr (.inr (1, 94))))]
theorem gw_16_0 : gj_16_0 = gi_16_0.map (fun e => (e.1, s_op e.2.1)) := rfl
noncomputable def gj_16_1 : List (Nat × sOp) := [(33, .inl (s_x_iload_n 1)), (34, .inr (.inr (.inr (1, 98)))), (37, .inl (s_x_ldc 210)), (39, .inr (.inr (.inr (1, 94)))), (42, .inr (.inr (.inr (1, 101)))), (45, .inr (.inr (.inr (2, 212)))), (48, .inl s_x_no), (49, .inl (s_x_iload_n 2)), (50, .inl (s_x_ldc 200)), (52, .inr (.inl (s_sp_ic, (s_x_if_icmp .gt 6)))), (55, .inl (s_x_ldc 200)), (57, .inr (.inr (.inl 0))), (58, .inl (s_x_iload_n 2)), (59, .inr (.inr (.inl 0)))]
theorem gw_16_1 : gj_16_1 = gi_16_1.map (fun e => (e.1, s_op e.2.1)) := rfl
noncomputable def gj_16 : List (List (Nat × sOp)) := [gj_16_0, gj_16_1]
theorem gw_16 : gj_16 = gi_16.map (fun ch => ch.map (fun e => (e.1, s_op e.2.1))) := by
  unfold gj_16 gi_16
  simp only [gw_16_0, gw_16_1, List.map_cons, List.map_nil]
noncomputable def gj_17_0 : List (Nat × sOp) := [(0, .inl (s_x_iload_n 0)), (1, .inl (s_x_iload_n 1)), (2, .inl (s_x_iload_n 2)), (3, .inr (.inr (.inr (0, 194)))), (6, .inl s_x_iadd), (7, .inl (s_x_istore_n 3)), (8, .inl (s_x_iconst 0)), (9, .inl (s_x_iload_n 3)), (10, .inr (.inl (s_sp_ic, (s_x_if_icmp .ge 11)))), (13, .inl (s_x_iload_n 3)), (14, .inl (s_x_ldc 200)), (16, .inr (.inl (s_sp_ic, (s_x_if_icmp .gt 5)))), (19, .inl (s_x_iload_n 3)), (20, .inr (.inr (.inl 0))), (21, .inl (s_x_iload_n 0)), (22, .inl (s_x_iload_n 1)), (23, .inr (.inr (.inr (0, 201)))), (26, .inr (.inr (.inl 0)))]
theorem gw_17_0 : gj_17_0 = gi_17_0.map (fun e => (e.1, s_op e.2.1)) := rfl
noncomputable def gj_17 : List (List (Nat × sOp)) := [gj_17_0]
theorem gw_17 : gj_17 = gi_17.map (fun ch => ch.map (fun e => (e.1, s_op e.2.1))) := by
  unfold gj_17 gi_17
  simp only [gw_17_0, List.map_cons, List.map_nil]
noncomputable def gj_18_0 : List (Nat × sOp) := [(0, .inl (s_x_aload_n 2)), (1, .inl (s_x_ldc 110)), (3, .inl (s_x_if_acmp .ne 10)), (6, .inl (s_x_iload_n 1)), (7, .inl (s_x_anewarray 2)), (10, .inl (s_x_goto 14)), (13, .inl (s_x_aload_n 2)), (14, .inr (.inr (.inr (1, 90)))), (17, .inl (s_x_iload_n 1)), (18, .inr (.inr (.inr (0, 95)))), (21, .inl s_x_no), (24, .inl (s_x_astore_n 3)), (25, .inl (s_x_aload_n 0)), (26, .inl (s_x_iconst 0)), (27, .inl (s_x_aload_n 3)), (28, .inl (s_x_iconst 0)), (29, .inl (s_x_aload_n 0)), (30, .inl s_x_arraylength), (31, .inl (s_x_iload_n 1))]
theorem gw_18_0 : gj_18_0 = gi_18_0.map (fun e => (e.1, s_op e.2.1)) := rfl
noncomputable def gj_18_1 : List (Nat × sOp) := [(32, .inr (.inr (.inr (0, 304)))), (35, .inr (.inr (.inr (0, 150)))), (38, .inl (s_x_aload_n 3)), (39, .inr (.inr (.inl 3)))]
theorem gw_18_1 : gj_18_1 = gi_18_1.map (fun e => (e.1, s_op e.2.1)) := rfl
noncomputable def gj_18 : List (List (Nat × sOp)) := [gj_18_0, gj_18_1]
theorem gw_18 : gj_18 = gi_18.map (fun ch => ch.map (fun e => (e.1, s_op e.2.1))) := by
  unfold gj_18 gi_18
  simp only [gw_18_0, gw_18_1, List.map_cons, List.map_nil]
noncomputable def gj_19_0 : List (Nat × sOp) := [(0, .inl (s_x_aload_n 0)), (1, .inl (s_x_iload_n 1)), (2, .inl (s_x_aload_n 0)), (3, .inr (.inr (.inr (1, 86)))), (6, .inr (.inr (.inr (0, 300)))), (9, .inr (.inr (.inl 3)))]
theorem gw_19_0 : gj_19_0 = gi_19_0.map (fun e => (e.1, s_op e.2.1)) := rfl
noncomputable def gj_19 : List (List (Nat × sOp)) := [gj_19_0]
theorem gw_19 : gj_19 = gi_19.map (fun ch => ch.map (fun e => (e.1, s_op e.2.1))) := by
  unfold gj_19 gi_19
  simp only [gw_19_0, List.map_cons, List.map_nil]
noncomputable def gj_20_0 : List (Nat × sOp) := [(0, .inl (s_x_aload_n 0)), (1, .inl (s_x_getfield 9)), (4, .inl s_x_arraylength), (5, .inl (s_x_istore_n 2)), (6, .inl (s_x_iload_n 2)), (7, .inr (.inl (s_sp_if, (s_x_ifCond .gt 13)))), (10, .inl (s_x_aload_n 0)), (11, .inl (s_x_getfield 9)), (14, .inl (s_x_getstatic 39)), (17, .inl (s_x_if_acmp .eq 28)), (20, .inl (s_x_iload_n 2)), (21, .inl (s_x_iload_n 1)), (22, .inl (s_x_iload_n 2)), (23, .inl s_x_isub), (24, .inl (s_x_iload_n 2)), (25, .inl (s_x_iconst 1)), (26, .inl s_x_ishr), (27, .inr (.inr (.inr (0, 73)))), (30, .inl (s_x_istore_n 3)), (31, .inl (s_x_aload_n 0))]
theorem gw_20_0 : gj_20_0 = gi_20_0.map (fun e => (e.1, s_op e.2.1)) := rfl
noncomputable def gj_20_1 : List (Nat × sOp) := [(32, .inl (s_x_aload_n 0)), (33, .inl (s_x_getfield 9)), (36, .inl (s_x_iload_n 3)), (37, .inr (.inr (.inr (0, 66)))), (40, .inl s_x_dup_x1), (41, .inl (s_x_putfield 9)), (44, .inr (.inr (.inl 3))), (45, .inl (s_x_aload_n 0)), (46, .inl (s_x_bipush 10)), (48, .inl (s_x_iload_n 1)), (49, .inr (.inr (.inr (0, 79)))), (52, .inl (s_x_anewarray 7)), (55, .inl s_x_dup_x1), (56, .inl (s_x_putfield 9)), (59, .inr (.inr (.inl 3)))]
theorem gw_20_1 : gj_20_1 = gi_20_1.map (fun e => (e.1, s_op e.2.1)) := rfl
noncomputable def gj_20 : List (List (Nat × sOp)) := [gj_20_0, gj_20_1]
theorem gw_20 : gj_20 = gi_20.map (fun ch => ch.map (fun e => (e.1, s_op e.2.1))) := by
  unfold gj_20 gi_20
  simp only [gw_20_0, gw_20_1, List.map_cons, List.map_nil]
noncomputable def gj_21_0 : List (Nat × sOp) := [(0, .inl (s_x_aload_n 0)), (1, .inl (s_x_aload_n 0)), (2, .inl (s_x_getfield 48)), (5, .inl (s_x_iconst 1)), (6, .inl s_x_iadd), (7, .inr (.inr (.inr (1, 69)))), (10, .inr (.inr (.inl 3)))]
theorem gw_21_0 : gj_21_0 = gi_21_0.map (fun e => (e.1, s_op e.2.1)) := rfl
noncomputable def gj_21 : List (List (Nat × sOp)) := [gj_21_0]
theorem gw_21 : gj_21 = gi_21.map (fun ch => ch.map (fun e => (e.1, s_op e.2.1))) := by
  unfold gj_21 gi_21
  simp only [gw_21_0, List.map_cons, List.map_nil]
noncomputable def gj_22_0 : List (Nat × sOp) := [(0, .inl (s_x_iload_n 3)), (1, .inl (s_x_aload_n 2)), (2, .inl s_x_arraylength), (3, .inr (.inl (s_sp_ic, (s_x_if_icmp .ne 8)))), (6, .inl (s_x_aload_n 0)), (7, .inr (.inr (.inr (1, 129)))), (10, .inl (s_x_astore_n 2)), (11, .inl (s_x_aload_n 2)), (12, .inl (s_x_iload_n 3)), (13, .inl (s_x_aload_n 1)), (14, .inl s_x_aastore), (15, .inl (s_x_aload_n 0)), (16, .inl (s_x_iload_n 3)), (17, .inl (s_x_iconst 1)), (18, .inl s_x_iadd), (19, .inl (s_x_putfield 48)), (22, .inr (.inr (.inl 4)))]
theorem gw_22_0 : gj_22_0 = gi_22_0.map (fun e => (e.1, s_op e.2.1)) := rfl
noncomputable def gj_22 : List (List (Nat × sOp)) := [gj_22_0]
theorem gw_22 : gj_22 = gi_22.map (fun ch => ch.map (fun e => (e.1, s_op e.2.1))) := by
  unfold gj_22 gi_22
  simp only [gw_22_0, List.map_cons, List.map_nil]
noncomputable def gj_23_0 : List (Nat × sOp) := [(0, .inl (s_x_aload_n 0)), (1, .inl s_x_dup), (2, .inl (s_x_getfield 63)), (5, .inl (s_x_iconst 1)), (6, .inl s_x_iadd), (7, .inl (s_x_putfield 63)), (10, .inl (s_x_aload_n 0)), (11, .inl (s_x_aload_n 1)), (12, .inl (s_x_aload_n 0)), (13, .inl (s_x_getfield 9)), (16, .inl (s_x_aload_n 0)), (17, .inl (s_x_getfield 48)), (20, .inr (.inr (.inr (1, 131)))), (23, .inl (s_x_iconst 1)), (24, .inr (.inr (.inl 0)))]
theorem gw_23_0 : gj_23_0 = gi_23_0.map (fun e => (e.1, s_op e.2.1)) := rfl
noncomputable def gj_23 : List (List (Nat × sOp)) := [gj_23_0]
theorem gw_23 : gj_23 = gi_23.map (fun ch => ch.map (fun e => (e.1, s_op e.2.1))) := by
  unfold gj_23 gi_23
  simp only [gw_23_0, List.map_cons, List.map_nil]
noncomputable def gj_24_0 : List (Nat × sOp) := [(0, .inl (s_x_aload_n 0)), (1, .inl (s_x_iconst 0)), (2, .inl (s_x_putfield 23)), (5, .inl (s_x_iload_n 2)), (6, .inl (s_x_bipush 10)), (8, .inl (s_x_sipush 300)), (11, .inr (.inr (.inr (0, 34)))), (14, .inr (.inl (s_sp_if, (s_x_ifCond .ne 9)))), (17, .inl (s_x_aload_n 0)), (18, .inl (s_x_iconst 1)), (19, .inr (.inr (.inr (1, 41)))), (22, .inr (.inr (.inl 0))), (23, .inl (s_x_aload_n 0)), (24, .inl (s_x_getfield 19)), (27, .inl (s_x_getfield 27)), (30, .inr (.inr (.inr (1, 30))))]
theorem gw_24_0 : gj_24_0 = gi_24_0.map (fun e => (e.1, s_op e.2.1)) := rfl
noncomputable def gj_24_1 : List (Nat × sOp) := [(33, .inl (s_x_bipush 8)), (35, .inr (.inl (s_sp_ic, (s_x_if_icmp .ne 9)))), (38, .inl (s_x_aload_n 0)), (39, .inl (s_x_iconst 2)), (40, .inr (.inr (.inr (1, 41)))), (43, .inr (.inr (.inl 0))), (44, .inl (s_x_bipush 12)), (46, .inl (s_x_newarray .int)), (48, .inl (s_x_astore_n 3)), (49, .inl (s_x_aload_n 3)), (50, .inl (s_x_iconst 0)), (51, .inl (s_x_iload_n 1)), (52, .inr (.inl (s_sp_if, (s_x_ifCond .eq 7)))), (55, .inl (s_x_iconst 1)), (56, .inl (s_x_goto 4)), (59, .inl (s_x_iconst 0)), (60, .inl s_x_iastore), (61, .inl (s_x_aload_n 3)), (62, .inl (s_x_iconst 1)), (63, .inl (s_x_iload_n 2))]
theorem gw_24_1 : gj_24_1 = gi_24_1.map (fun e => (e.1, s_op e.2.1)) := rfl
noncomputable def gj_24_2 : List (Nat × sOp) := [(64, .inl s_x_iastore), (65, .inl (s_x_aload_n 3)), (66, .inl (s_x_iconst 5)), (67, .inl (s_x_iconst 1)), (68, .inl s_x_iastore), (69, .inl (s_x_aload_n 0)), (70, .inl (s_x_getfield 19)), (73, .inl (s_x_getfield 27)), (76, .inl (s_x_aload_n 3)), (77, .inr (.inr (.inr (1, 45)))), (80, .inl s_x_pop), (81, .inl (s_x_aload_n 0)), (82, .inl (s_x_getfield 19)), (85, .inl (s_x_getfield 27)), (88, .inr (.inr (.inr (1, 30)))), (91, .inl (s_x_iconst 1)), (92, .inl s_x_isub), (93, .inr (.inr (.inl 0)))]
theorem gw_24_2 : gj_24_2 = gi_24_2.map (fun e => (e.1, s_op e.2.1)) := rfl
noncomputable def gj_24 : List (List (Nat × sOp)) := [gj_24_0, gj_24_1, gj_24_2]
theorem gw_24 : gj_24 = gi_24.map (fun ch => ch.map (fun e => (e.1, s_op e.2.1))) := by
  unfold gj_24 gi_24
  simp only [gw_24_0, gw_24_1, gw_24_2, List.map_cons, List.map_nil]
noncomputable def gj_25_0 : List (Nat × sOp) := [(0, .inl (s_x_aload_n 0)), (1, .inl (s_x_getfield 23)), (4, .inr (.inr (.inl 0)))]
theorem gw_25_0 : gj_25_0 = gi_25_0.map (fun e => (e.1, s_op e.2.1)) := rfl
noncomputable def gj_25 : List (List (Nat × sOp)) := [gj_25_0]
theorem gw_25 : gj_25 = gi_25.map (fun ch => ch.map (fun e => (e.1, s_op e.2.1))) := by
  unfold gj_25 gi_25
  simp only [gw_25_0, List.map_cons, List.map_nil]
noncomputable def gj_26_0 : List (Nat × sOp) := [(0, .inl (s_x_iload_n 1)), (1, .inl (s_x_iconst 1)), (2, .inr (.inl (s_sp_ic, (s_x_if_icmp .lt 9)))), (5, .inl (s_x_iload_n 1)), (6, .inl (s_x_bipush 90)), (8, .inr (.inl (s_sp_ic, (s_x_if_icmp .le 13)))), (11, .inl (s_x_new 30)), (14, .inl s_x_dup), (15, .inl (s_x_ldc 62)), (17, .inr (.inr (.inr (2, 34)))), (20, .inl s_x_no), (21, .inl (s_x_iload_n 2)), (22, .inr (.inl (s_sp_if, (s_x_ifCond .lt 9)))), (25, .inl (s_x_iload_n 2)), (26, .inl (s_x_bipush 60)), (28, .inr (.inl (s_sp_ic, (s_x_if_icmp .le 13)))), (31, .inl (s_x_new 30))]
theorem gw_26_0 : gj_26_0 = gi_26_0.map (fun e => (e.1, s_op e.2.1)) := rfl
noncomputable def gj_26_1 : List (Nat × sOp) := [(34, .inl s_x_dup), (35, .inl (s_x_ldc 64)), (37, .inr (.inr (.inr (2, 34)))), (40, .inl s_x_no), (41, .inl (s_x_iload_n 3)), (42, .inr (.inl (s_sp_if, (s_x_ifCond .lt 8)))), (45, .inl (s_x_iload_n 3)), (46, .inl (s_x_iconst 2)), (47, .inr (.inl (s_sp_ic, (s_x_if_icmp .le 13)))), (50, .inl (s_x_new 30)), (53, .inl s_x_dup), (54, .inl (s_x_ldc 66)), (56, .inr (.inr (.inr (2, 34)))), (59, .inl s_x_no), (60, .inl (s_x_aload_n 0)), (61, .inl (s_x_getfield 68))]
theorem gw_26_1 : gj_26_1 = gi_26_1.map (fun e => (e.1, s_op e.2.1)) := rfl
noncomputable def gj_26_2 : List (Nat × sOp) := [(64, .inl (s_x_bipush 10)), (66, .inr (.inl (s_sp_ic, (s_x_if_icmp .lt 13)))), (69, .inl (s_x_new 41)), (72, .inl s_x_dup), (73, .inl (s_x_ldc 71)), (75, .inr (.inr (.inr (2, 45)))), (78, .inl s_x_no), (79, .inl (s_x_aload_n 0)), (80, .inl (s_x_getfield 21)), (83, .inl (s_x_aload_n 0)), (84, .inl (s_x_getfield 68)), (87, .inl s_x_aaload), (88, .inl (s_x_astore 4)), (90, .inl (s_x_aload 4)), (92, .inl (s_x_iload_n 1)), (93, .inl (s_x_putfield 73))]
theorem gw_26_2 : gj_26_2 = gi_26_2.map (fun e => (e.1, s_op e.2.1)) := rfl
noncomputable def gj_26_3 : List (Nat × sOp) := [(96, .inl (s_x_aload 4)), (98, .inl (s_x_iload_n 2)), (99, .inl (s_x_putfield 76)), (102, .inl (s_x_aload 4)), (104, .inl (s_x_iload_n 3)), (105, .inl (s_x_putfield 79)), (108, .inl (s_x_aload_n 0)), (109, .inl s_x_dup), (110, .inl (s_x_getfield 68)), (113, .inl s_x_dup_x1), (114, .inl (s_x_iconst 1)), (115, .inl s_x_iadd), (116, .inl (s_x_putfield 68)), (119, .inr (.inr (.inl 0)))]
theorem gw_26_3 : gj_26_3 = gi_26_3.map (fun e => (e.1, s_op e.2.1)) := rfl
noncomputable def gj_26 : List (List (Nat × sOp)) := [gj_26_0, gj_26_1, gj_26_2, gj_26_3]
theorem gw_26 : gj_26 = gi_26.map (fun ch => ch.map (fun e => (e.1, s_op e.2.1))) := by
  unfold gj_26 gi_26
  simp only [gw_26_0, gw_26_1, gw_26_2, gw_26_3, List.map_cons, List.map_nil]
noncomputable def gj_27_0 : List (Nat × sOp) := [(0, .inl (s_x_aload 4)), (2, .inl (s_x_iconst 0)), (3, .inl (s_x_aload_n 0)), (4, .inl (s_x_iload_n 1)), (5, .inl (s_x_iload_n 2)), (6, .inl (s_x_iload_n 3)), (7, .inr (.inr (.inr (1, 17)))), (10, .inl s_x_i2l), (11, .inl s_x_lastore), (12, .inl (s_x_goto 11)), (15, .inl (s_x_astore 5)), (17, .inl (s_x_iconst 1)), (18, .inr (.inr (.inl 0))), (19, .inl (s_x_astore 5)), (21, .inl (s_x_iconst 2)), (22, .inr (.inr (.inl 0))), (23, .inl (s_x_iconst 0)), (24, .inr (.inr (.inl 0)))]
theorem gw_27_0 : gj_27_0 = gi_27_0.map (fun e => (e.1, s_op e.2.1)) := rfl
noncomputable def gj_27 : List (List (Nat × sOp)) := [gj_27_0]
theorem gw_27 : gj_27 = gi_27.map (fun ch => ch.map (fun e => (e.1, s_op e.2.1))) := by
  unfold gj_27 gi_27
  simp only [gw_27_0, List.map_cons, List.map_nil]
noncomputable def gj_28_0 : List (Nat × sOp) := [(0, .inl (s_x_aload_n 0)), (1, .inl (s_x_iconst 0)), (2, .inl (s_x_putfield 23)), (5, .inl (s_x_iload_n 1)), (6, .inl (s_x_iconst 1)), (7, .inl (s_x_bipush 90)), (9, .inr (.inr (.inr (0, 34)))), (12, .inr (.inl (s_sp_if, (s_x_ifCond .eq 22)))), (15, .inl (s_x_iload_n 2)), (16, .inl (s_x_iconst 0)), (17, .inl (s_x_bipush 60)), (19, .inr (.inr (.inr (0, 34)))), (22, .inr (.inl (s_sp_if, (s_x_ifCond .eq 12)))), (25, .inl (s_x_iload_n 3)), (26, .inl (s_x_iconst 0)), (27, .inl (s_x_iconst 2)), (28, .inr (.inr (.inr (0, 34)))), (31, .inr (.inl (s_sp_if, (s_x_ifCond .ne 9))))]
theorem gw_28_0 : gj_28_0 = gi_28_0.map (fun e => (e.1, s_op e.2.1)) := rfl
noncomputable def gj_28_1 : List (Nat × sOp) := [(34, .inl (s_x_aload_n 0)), (35, .inl (s_x_iconst 1)), (36, .inr (.inr (.inr (1, 41)))), (39, .inr (.inr (.inl 0))), (40, .inl (s_x_aload_n 0)), (41, .inl (s_x_getfield 10)), (44, .inr (.inr (.inr (1, 30)))), (47, .inl (s_x_bipush 10)), (49, .inr (.inl (s_sp_ic, (s_x_if_icmp .ne 9)))), (52, .inl (s_x_aload_n 0)), (53, .inl (s_x_iconst 2)), (54, .inr (.inr (.inr (1, 41)))), (57, .inr (.inr (.inl 0))), (58, .inl (s_x_iconst 4)), (59, .inl (s_x_newarray .int)), (61, .inl s_x_dup), (62, .inl (s_x_iconst 0)), (63, .inl (s_x_iload_n 1))]
theorem gw_28_1 : gj_28_1 = gi_28_1.map (fun e => (e.1, s_op e.2.1)) := rfl
noncomputable def gj_28_2 : List (Nat × sOp) := [(64, .inl s_x_iastore), (65, .inl s_x_dup), (66, .inl (s_x_iconst 1)), (67, .inl (s_x_iload_n 2)), (68, .inl s_x_iastore), (69, .inl s_x_dup), (70, .inl (s_x_iconst 2)), (71, .inl (s_x_iload_n 3)), (72, .inl s_x_iastore), (73, .inl s_x_dup), (74, .inl (s_x_iconst 3)), (75, .inl (s_x_iconst (-1))), (76, .inl s_x_iastore), (77, .inl (s_x_astore 4)), (79, .inl (s_x_aload_n 0)), (80, .inl (s_x_getfield 10)), (83, .inl (s_x_aload 4)), (85, .inr (.inr (.inr (1, 45)))), (88, .inl s_x_pop), (89, .inl (s_x_aload_n 0)), (90, .inl (s_x_getfield 10)), (93, .inr (.inr (.inr (1, 30))))]
theorem gw_28_2 : gj_28_2 = gi_28_2.map (fun e => (e.1, s_op e.2.1)) := rfl
noncomputable def gj_28_3 : List (Nat × sOp) := [(96, .inl (s_x_iconst 1)), (97, .inl s_x_isub), (98, .inr (.inr (.inl 0)))]
theorem gw_28_3 : gj_28_3 = gi_28_3.map (fun e => (e.1, s_op e.2.1)) := rfl
noncomputable def gj_28 : List (List (Nat × sOp)) := [gj_28_0, gj_28_1, gj_28_2, gj_28_3]
theorem gw_28 : gj_28 = gi_28.map (fun ch => ch.map (fun e => (e.1, s_op e.2.1))) := by
  unfold gj_28 gi_28
  simp only [gw_28_0, gw_28_1, gw_28_2, gw_28_3, List.map_cons, List.map_nil]
noncomputable def gj_29_0 : List (Nat × sOp) := [(0, .inl (s_x_iload_n 1)), (1, .inl (s_x_iconst (-1))), (2, .inr (.inl (s_sp_ic, (s_x_if_icmp .lt 9)))), (5, .inl (s_x_iload_n 1)), (6, .inl (s_x_bipush 6)), (8, .inr (.inl (s_sp_ic, (s_x_if_icmp .lt 13)))), (11, .inl (s_x_new 30)), (14, .inl s_x_dup), (15, .inl (s_x_ldc 82)), (17, .inr (.inr (.inr (2, 34)))), (20, .inl s_x_no), (21, .inl (s_x_aload_n 0)), (22, .inl (s_x_getfield 10)), (25, .inl (s_x_getfield 84)), (28, .inl (s_x_bipush 6)), (30, .inr (.inl (s_sp_ic, (s_x_if_icmp .lt 13))))]
theorem gw_29_0 : gj_29_0 = gi_29_0.map (fun e => (e.1, s_op e.2.1)) := rfl
noncomputable def gj_29_1 : List (Nat × sOp) := [(33, .inl (s_x_new 41)), (36, .inl s_x_dup), (37, .inl (s_x_ldc 87)), (39, .inr (.inr (.inr (2, 45)))), (42, .inl s_x_no), (43, .inl (s_x_aload_n 0)), (44, .inl (s_x_getfield 10)), (47, .inl (s_x_getfield 89)), (50, .inl (s_x_aload_n 0)), (51, .inl (s_x_getfield 10)), (54, .inl (s_x_getfield 84)), (57, .inl s_x_aaload), (58, .inl (s_x_iload_n 1)), (59, .inl (s_x_putfield 93)), (62, .inl (s_x_aload_n 0)), (63, .inl (s_x_getfield 10))]
theorem gw_29_1 : gj_29_1 = gi_29_1.map (fun e => (e.1, s_op e.2.1)) := rfl
noncomputable def gj_29_2 : List (Nat × sOp) := [(66, .inl s_x_dup), (67, .inl (s_x_getfield 84)), (70, .inl s_x_dup_x1), (71, .inl (s_x_iconst 1)), (72, .inl s_x_iadd), (73, .inl (s_x_putfield 84)), (76, .inr (.inr (.inl 0)))]
theorem gw_29_2 : gj_29_2 = gi_29_2.map (fun e => (e.1, s_op e.2.1)) := rfl
noncomputable def gj_29 : List (List (Nat × sOp)) := [gj_29_0, gj_29_1, gj_29_2]
theorem gw_29 : gj_29 = gi_29.map (fun ch => ch.map (fun e => (e.1, s_op e.2.1))) := by
  unfold gj_29 gi_29
  simp only [gw_29_0, gw_29_1, gw_29_2, List.map_cons, List.map_nil]
noncomputable def gj_30_0 : List (Nat × sOp) := [(0, .inl (s_x_aload_n 2)), (1, .inl (s_x_iconst 0)), (2, .inl (s_x_aload_n 0)), (3, .inl (s_x_iload_n 1)), (4, .inr (.inr (.inr (1, 21)))), (7, .inl s_x_i2l), (8, .inl s_x_lastore), (9, .inl (s_x_goto 9)), (12, .inl (s_x_astore_n 3)), (13, .inl (s_x_iconst 1)), (14, .inr (.inr (.inl 0))), (15, .inl (s_x_astore_n 3)), (16, .inl (s_x_iconst 2)), (17, .inr (.inr (.inl 0))), (18, .inl (s_x_iconst 0)), (19, .inr (.inr (.inl 0)))]
theorem gw_30_0 : gj_30_0 = gi_30_0.map (fun e => (e.1, s_op e.2.1)) := rfl
noncomputable def gj_30 : List (List (Nat × sOp)) := [gj_30_0]
theorem gw_30 : gj_30 = gi_30.map (fun ch => ch.map (fun e => (e.1, s_op e.2.1))) := by
  unfold gj_30 gi_30
  simp only [gw_30_0, List.map_cons, List.map_nil]
noncomputable def gj_31_0 : List (Nat × sOp) := [(0, .inl (s_x_aload_n 0)), (1, .inl (s_x_iconst 0)), (2, .inl (s_x_putfield 23)), (5, .inl (s_x_iload_n 1)), (6, .inl (s_x_iconst (-1))), (7, .inl (s_x_iconst 5)), (8, .inr (.inr (.inr (0, 34)))), (11, .inr (.inl (s_sp_if, (s_x_ifCond .ne 9)))), (14, .inl (s_x_aload_n 0)), (15, .inl (s_x_iconst 1)), (16, .inr (.inr (.inr (1, 41)))), (19, .inr (.inr (.inl 0))), (20, .inl (s_x_aload_n 0)), (21, .inl (s_x_getfield 19)), (24, .inl (s_x_getfield 38)), (27, .inr (.inr (.inr (1, 30)))), (30, .inl (s_x_bipush 6))]
theorem gw_31_0 : gj_31_0 = gi_31_0.map (fun e => (e.1, s_op e.2.1)) := rfl
noncomputable def gj_31_1 : List (Nat × sOp) := [(32, .inr (.inl (s_sp_ic, (s_x_if_icmp .ne 9)))), (35, .inl (s_x_aload_n 0)), (36, .inl (s_x_iconst 2)), (37, .inr (.inr (.inr (1, 41)))), (40, .inr (.inr (.inl 0))), (41, .inl (s_x_aload_n 0)), (42, .inl (s_x_getfield 19)), (45, .inl (s_x_getfield 49)), (48, .inl (s_x_aload_n 0)), (49, .inl (s_x_getfield 19)), (52, .inl (s_x_getfield 38)), (55, .inr (.inr (.inr (1, 30)))), (58, .inl (s_x_iload_n 1)), (59, .inl s_x_iastore), (60, .inl (s_x_aload_n 0)), (61, .inl (s_x_getfield 19))]
theorem gw_31_1 : gj_31_1 = gi_31_1.map (fun e => (e.1, s_op e.2.1)) := rfl
noncomputable def gj_31_2 : List (Nat × sOp) := [(64, .inl (s_x_getfield 38)), (67, .inl (s_x_new 7)), (70, .inl s_x_dup), (71, .inr (.inr (.inr (2, 9)))), (74, .inr (.inr (.inr (1, 45)))), (77, .inl s_x_pop), (78, .inl (s_x_aload_n 0)), (79, .inl (s_x_getfield 19)), (82, .inl (s_x_getfield 38)), (85, .inr (.inr (.inr (1, 30)))), (88, .inl (s_x_iconst 1)), (89, .inl s_x_isub), (90, .inr (.inr (.inl 0)))]
theorem gw_31_2 : gj_31_2 = gi_31_2.map (fun e => (e.1, s_op e.2.1)) := rfl
noncomputable def gj_31 : List (List (Nat × sOp)) := [gj_31_0, gj_31_1, gj_31_2]
theorem gw_31 : gj_31 = gi_31.map (fun ch => ch.map (fun e => (e.1, s_op e.2.1))) := by
  unfold gj_31 gi_31
  simp only [gw_31_0, gw_31_1, gw_31_2, List.map_cons, List.map_nil]
noncomputable def gj_32_0 : List (Nat × sOp) := [(0, .inl (s_x_iload_n 1)), (1, .inr (.inl (s_sp_if, (s_x_ifCond .lt 11)))), (4, .inl (s_x_iload_n 1)), (5, .inl (s_x_aload_n 0)), (6, .inl (s_x_getfield 44)), (9, .inr (.inl (s_sp_ic, (s_x_if_icmp .lt 13)))), (12, .inl (s_x_new 84)), (15, .inl s_x_dup), (16, .inl (s_x_ldc 91)), (18, .inr (.inr (.inr (2, 88)))), (21, .inl s_x_no), (22, .inl (s_x_aload_n 0)), (23, .inl (s_x_getfield 32)), (26, .inl (s_x_iload_n 1)), (27, .inl s_x_aaload), (28, .inr (.inr (.inl 3)))]
theorem gw_32_0 : gj_32_0 = gi_32_0.map (fun e => (e.1, s_op e.2.1)) := rfl
noncomputable def gj_32 : List (List (Nat × sOp)) := [gj_32_0]
theorem gw_32 : gj_32 = gi_32.map (fun ch => ch.map (fun e => (e.1, s_op e.2.1))) := by
  unfold gj_32 gi_32
  simp only [gw_32_0, List.map_cons, List.map_nil]
noncomputable def gj_33_0 : List (Nat × sOp) := [(0, .inl (s_x_iload_n 1)), (1, .inr (.inl (s_sp_if, (s_x_ifCond .lt 11)))), (4, .inl (s_x_iload_n 1)), (5, .inl (s_x_aload_n 0)), (6, .inl (s_x_getfield 37)), (9, .inr (.inl (s_sp_ic, (s_x_if_icmp .lt 13)))), (12, .inl (s_x_new 84)), (15, .inl s_x_dup), (16, .inl (s_x_ldc 86)), (18, .inr (.inr (.inr (2, 88)))), (21, .inl s_x_no), (22, .inl (s_x_aload_n 0)), (23, .inl (s_x_getfield 23)), (26, .inl (s_x_iload_n 1)), (27, .inl s_x_aaload), (28, .inr (.inr (.inl 3)))]
theorem gw_33_0 : gj_33_0 = gi_33_0.map (fun e => (e.1, s_op e.2.1)) := rfl
noncomputable def gj_33 : List (List (Nat × sOp)) := [gj_33_0]
theorem gw_33 : gj_33 = gi_33.map (fun ch => ch.map (fun e => (e.1, s_op e.2.1))) := by
  unfold gj_33 gi_33
  simp only [gw_33_0, List.map_cons, List.map_nil]
noncomputable def gj_34_0 : List (Nat × sOp) := [(0, .inl (s_x_iconst 0)), (1, .inl (s_x_istore_n 2)), (2, .inl (s_x_iload_n 2)), (3, .inl (s_x_aload_n 0)), (4, .inl (s_x_getfield 22)), (7, .inr (.inl (s_sp_ic, (s_x_if_icmp .ge 24)))), (10, .inl (s_x_aload_n 0)), (11, .inl (s_x_getfield 17)), (14, .inl (s_x_iload_n 2)), (15, .inl s_x_aaload), (16, .inl (s_x_getfield 36)), (19, .inl (s_x_iload_n 1)), (20, .inr (.inl (s_sp_ic, (s_x_if_icmp .ne 5)))), (23, .inl (s_x_iconst 1)), (24, .inr (.inr (.inl 0))), (25, .inl (s_x_iinc 2 1)), (28, .inl (s_x_goto (-26))), (31, .inl (s_x_iconst 0))]
theorem gw_34_0 : gj_34_0 = gi_34_0.map (fun e => (e.1, s_op e.2.1)) := rfl
noncomputable def gj_34_1 : List (Nat × sOp) := [(32, .inr (.inr (.inl 0)))]
theorem gw_34_1 : gj_34_1 = gi_34_1.map (fun e => (e.1, s_op e.2.1)) := rfl
noncomputable def gj_34 : List (List (Nat × sOp)) := [gj_34_0, gj_34_1]
theorem gw_34 : gj_34 = gi_34.map (fun ch => ch.map (fun e => (e.1, s_op e.2.1))) := by
  unfold gj_34 gi_34
  simp only [gw_34_0, gw_34_1, List.map_cons, List.map_nil]
noncomputable def gj_35_0 : List (Nat × sOp) := [(0, .inl (s_x_aload_n 0)), (1, .inl (s_x_getfield 10)), (4, .inl (s_x_iload_n 1)), (5, .inr (.inr (.inr (1, 98)))), (8, .inl (s_x_astore 6)), (10, .inl (s_x_aload_n 0)), (11, .inl (s_x_getfield 10)), (14, .inl (s_x_iload_n 2)), (15, .inr (.inr (.inr (1, 102)))), (18, .inl (s_x_astore 7)), (20, .inl (s_x_iload_n 3)), (21, .inr (.inl (s_sp_if, (s_x_ifCond .lt 9)))), (24, .inl (s_x_iload_n 3)), (25, .inl (s_x_bipush 120)), (27, .inr (.inl (s_sp_ic, (s_x_if_icmp .le 13)))), (30, .inl (s_x_new 30))]
theorem gw_35_0 : gj_35_0 = gi_35_0.map (fun e => (e.1, s_op e.2.1)) := rfl
noncomputable def gj_35_1 : List (Nat × sOp) := [(33, .inl s_x_dup), (34, .inl (s_x_ldc 106)), (36, .inr (.inr (.inr (2, 34)))), (39, .inl s_x_no), (40, .inl (s_x_iload 4)), (42, .inl (s_x_iconst 1)), (43, .inr (.inl (s_sp_ic, (s_x_if_icmp .lt 10)))), (46, .inl (s_x_iload 4)), (48, .inl (s_x_bipush 6)), (50, .inr (.inl (s_sp_ic, (s_x_if_icmp .le 13)))), (53, .inl (s_x_new 30)), (56, .inl s_x_dup), (57, .inl (s_x_ldc 108)), (59, .inr (.inr (.inr (2, 34)))), (62, .inl s_x_no), (63, .inl (s_x_iload 5))]
theorem gw_35_1 : gj_35_1 = gi_35_1.map (fun e => (e.1, s_op e.2.1)) := rfl
noncomputable def gj_35_2 : List (Nat × sOp) := [(65, .inr (.inl (s_sp_if, (s_x_ifCond .lt 10)))), (68, .inl (s_x_iload 5)), (70, .inl (s_x_bipush 20)), (72, .inr (.inl (s_sp_ic, (s_x_if_icmp .le 13)))), (75, .inl (s_x_new 30)), (78, .inl s_x_dup), (79, .inl (s_x_ldc 110)), (81, .inr (.inr (.inr (2, 34)))), (84, .inl s_x_no), (85, .inl (s_x_aload_n 0)), (86, .inl (s_x_getfield 10)), (89, .inl (s_x_getfield 112)), (92, .inl (s_x_iload_n 1)), (93, .inr (.inl (s_sp_ic, (s_x_if_icmp .ne 13))))]
theorem gw_35_2 : gj_35_2 = gi_35_2.map (fun e => (e.1, s_op e.2.1)) := rfl
noncomputable def gj_35_3 : List (Nat × sOp) := [(96, .inl (s_x_new 41)), (99, .inl s_x_dup), (100, .inl (s_x_ldc 115)), (102, .inr (.inr (.inr (2, 45)))), (105, .inl s_x_no), (106, .inl (s_x_aload 6)), (108, .inl (s_x_getfield 117)), (111, .inl (s_x_bipush 6)), (113, .inr (.inl (s_sp_ic, (s_x_if_icmp .lt 13)))), (116, .inl (s_x_new 41)), (119, .inl s_x_dup), (120, .inl (s_x_ldc 120)), (122, .inr (.inr (.inr (2, 45)))), (125, .inl s_x_no), (126, .inl (s_x_aload 6))]
theorem gw_35_3 : gj_35_3 = gi_35_3.map (fun e => (e.1, s_op e.2.1)) := rfl
noncomputable def gj_35_4 : List (Nat × sOp) := [(128, .inl (s_x_aload 7)), (130, .inl (s_x_getfield 59)), (133, .inr (.inr (.inr (1, 122)))), (136, .inr (.inl (s_sp_if, (s_x_ifCond .eq 13)))), (139, .inl (s_x_new 41)), (142, .inl s_x_dup), (143, .inl (s_x_ldc 126)), (145, .inr (.inr (.inr (2, 45)))), (148, .inl s_x_no), (149, .inl (s_x_aload 6)), (151, .inl (s_x_getfield 128)), (154, .inl (s_x_aload 6)), (156, .inl (s_x_getfield 117)), (159, .inl s_x_aaload)]
theorem gw_35_4 : gj_35_4 = gi_35_4.map (fun e => (e.1, s_op e.2.1)) := rfl
noncomputable def gj_35_5 : List (Nat × sOp) := [(160, .inl (s_x_astore 8)), (162, .inl (s_x_aload 8)), (164, .inl (s_x_aload 7)), (166, .inl (s_x_getfield 59)), (169, .inl (s_x_putfield 132)), (172, .inl (s_x_aload 8)), (174, .inl (s_x_iload_n 3)), (175, .inl (s_x_putfield 137)), (178, .inl (s_x_aload 8)), (180, .inl (s_x_iload 4)), (182, .inl (s_x_putfield 140)), (185, .inl (s_x_aload 8)), (187, .inl (s_x_iload 5)), (189, .inl (s_x_putfield 143))]
theorem gw_35_5 : gj_35_5 = gi_35_5.map (fun e => (e.1, s_op e.2.1)) := rfl
noncomputable def gj_35_6 : List (Nat × sOp) := [(192, .inl (s_x_aload 6)), (194, .inl s_x_dup), (195, .inl (s_x_getfield 117)), (198, .inl s_x_dup_x1), (199, .inl (s_x_iconst 1)), (200, .inl s_x_iadd), (201, .inl (s_x_putfield 117)), (204, .inr (.inr (.inl 0)))]
theorem gw_35_6 : gj_35_6 = gi_35_6.map (fun e => (e.1, s_op e.2.1)) := rfl
noncomputable def gj_35 : List (List (Nat × sOp)) := [gj_35_0, gj_35_1, gj_35_2, gj_35_3, gj_35_4, gj_35_5, gj_35_6]
theorem gw_35 : gj_35 = gi_35.map (fun ch => ch.map (fun e => (e.1, s_op e.2.1))) := by
  unfold gj_35 gi_35
  simp only [gw_35_0, gw_35_1, gw_35_2, gw_35_3, gw_35_4, gw_35_5, gw_35_6, List.map_cons, List.map_nil]
noncomputable def gj_36_0 : List (Nat × sOp) := [(0, .inl (s_x_aload 6)), (2, .inl (s_x_iconst 0)), (3, .inl (s_x_aload_n 0)), (4, .inl (s_x_iload_n 1)), (5, .inl (s_x_iload_n 2)), (6, .inl (s_x_iload_n 3)), (7, .inl (s_x_iload 4)), (9, .inl (s_x_iload 5)), (11, .inr (.inr (.inr (1, 25)))), (14, .inl s_x_i2l), (15, .inl s_x_lastore), (16, .inl (s_x_goto 15)), (19, .inl (s_x_astore 7)), (21, .inl (s_x_iconst 1)), (22, .inr (.inr (.inl 0))), (23, .inl (s_x_astore 7)), (25, .inl (s_x_iconst 2)), (26, .inr (.inr (.inl 0))), (27, .inl (s_x_astore 7)), (29, .inl (s_x_iconst 3)), (30, .inr (.inr (.inl 0))), (31, .inl (s_x_iconst 0))]
theorem gw_36_0 : gj_36_0 = gi_36_0.map (fun e => (e.1, s_op e.2.1)) := rfl
noncomputable def gj_36_1 : List (Nat × sOp) := [(32, .inr (.inr (.inl 0)))]
theorem gw_36_1 : gj_36_1 = gi_36_1.map (fun e => (e.1, s_op e.2.1)) := rfl
noncomputable def gj_36 : List (List (Nat × sOp)) := [gj_36_0, gj_36_1]
theorem gw_36 : gj_36 = gi_36.map (fun ch => ch.map (fun e => (e.1, s_op e.2.1))) := by
  unfold gj_36 gi_36
  simp only [gw_36_0, gw_36_1, List.map_cons, List.map_nil]
noncomputable def gj_37_0 : List (Nat × sOp) := [(0, .inl (s_x_iload_n 1)), (1, .inl (s_x_iconst 0)), (2, .inl (s_x_aload_n 0)), (3, .inl (s_x_getfield 19)), (6, .inl (s_x_getfield 38)), (9, .inr (.inr (.inr (1, 30)))), (12, .inl (s_x_iconst 1)), (13, .inl s_x_isub), (14, .inr (.inr (.inr (0, 34)))), (17, .inr (.inr (.inl 0)))]
theorem gw_37_0 : gj_37_0 = gi_37_0.map (fun e => (e.1, s_op e.2.1)) := rfl
noncomputable def gj_37 : List (List (Nat × sOp)) := [gj_37_0]
theorem gw_37 : gj_37 = gi_37.map (fun ch => ch.map (fun e => (e.1, s_op e.2.1))) := by
  unfold gj_37 gi_37
  simp only [gw_37_0, List.map_cons, List.map_nil]
noncomputable def gj_38_0 : List (Nat × sOp) := [(0, .inl (s_x_iload_n 1)), (1, .inl (s_x_iconst 0)), (2, .inl (s_x_aload_n 0)), (3, .inl (s_x_getfield 19)), (6, .inl (s_x_getfield 27)), (9, .inr (.inr (.inr (1, 30)))), (12, .inl (s_x_iconst 1)), (13, .inl s_x_isub), (14, .inr (.inr (.inr (0, 34)))), (17, .inr (.inr (.inl 0)))]
theorem gw_38_0 : gj_38_0 = gi_38_0.map (fun e => (e.1, s_op e.2.1)) := rfl
noncomputable def gj_38 : List (List (Nat × sOp)) := [gj_38_0]
theorem gw_38 : gj_38 = gi_38.map (fun ch => ch.map (fun e => (e.1, s_op e.2.1))) := by
  unfold gj_38 gi_38
  simp only [gw_38_0, List.map_cons, List.map_nil]
noncomputable def gj_39_0 : List (Nat × sOp) := [(0, .inl (s_x_iload_n 0)), (1, .inr (.inl (s_sp_if, (s_x_ifCond .lt 8)))), (4, .inl (s_x_iload_n 0)), (5, .inl (s_x_iload_n 1)), (6, .inr (.inl (s_sp_ic, (s_x_if_icmp .lt 10)))), (9, .inl (s_x_aload_n 2)), (10, .inl (s_x_iload_n 0)), (11, .inl (s_x_iload_n 1)), (12, .inr (.inr (.inr (0, 95)))), (15, .inl s_x_no), (16, .inl (s_x_iload_n 0)), (17, .inr (.inr (.inl 0)))]
theorem gw_39_0 : gj_39_0 = gi_39_0.map (fun e => (e.1, s_op e.2.1)) := rfl
noncomputable def gj_39 : List (List (Nat × sOp)) := [gj_39_0]
theorem gw_39 : gj_39 = gi_39.map (fun ch => ch.map (fun e => (e.1, s_op e.2.1))) := by
  unfold gj_39 gi_39
  simp only [gw_39_0, List.map_cons, List.map_nil]
noncomputable def gj_40_0 : List (Nat × sOp) := [(0, .inl (s_x_iload_n 0)), (1, .inl (s_x_iload_n 1)), (2, .inl s_x_aconst_null), (3, .inr (.inr (.inr (0, 105)))), (6, .inr (.inr (.inl 0)))]
theorem gw_40_0 : gj_40_0 = gi_40_0.map (fun e => (e.1, s_op e.2.1)) := rfl
noncomputable def gj_40 : List (List (Nat × sOp)) := [gj_40_0]
theorem gw_40 : gj_40 = gi_40.map (fun ch => ch.map (fun e => (e.1, s_op e.2.1))) := by
  unfold gj_40 gi_40
  simp only [gw_40_0, List.map_cons, List.map_nil]
noncomputable def gj_41_0 : List (Nat × sOp) := [(0, .inl (s_x_aload_n 0)), (1, .inl (s_x_getfield 9)), (4, .inl (s_x_iload_n 1)), (5, .inl s_x_aaload), (6, .inr (.inr (.inl 3)))]
theorem gw_41_0 : gj_41_0 = gi_41_0.map (fun e => (e.1, s_op e.2.1)) := rfl
noncomputable def gj_41 : List (List (Nat × sOp)) := [gj_41_0]
theorem gw_41 : gj_41 = gi_41.map (fun ch => ch.map (fun e => (e.1, s_op e.2.1))) := by
  unfold gj_41 gi_41
  simp only [gw_41_0, List.map_cons, List.map_nil]
noncomputable def gj_42_0 : List (Nat × sOp) := [(0, .inl (s_x_iload_n 1)), (1, .inl (s_x_aload_n 0)), (2, .inl (s_x_getfield 48)), (5, .inr (.inr (.inr (0, 118)))), (8, .inl s_x_pop), (9, .inl (s_x_aload_n 0)), (10, .inl (s_x_iload_n 1)), (11, .inr (.inr (.inr (1, 123)))), (14, .inr (.inr (.inl 3)))]
theorem gw_42_0 : gj_42_0 = gi_42_0.map (fun e => (e.1, s_op e.2.1)) := rfl
noncomputable def gj_42 : List (List (Nat × sOp)) := [gj_42_0]
theorem gw_42 : gj_42 = gi_42.map (fun ch => ch.map (fun e => (e.1, s_op e.2.1))) := by
  unfold gj_42 gi_42
  simp only [gw_42_0, List.map_cons, List.map_nil]
noncomputable def gj_43_0 : List (Nat × sOp) := [(0, .inl (s_x_aload_n 0)), (1, .inl (s_x_aload_n 1)), (2, .inl (s_x_putfield 1)), (5, .inl (s_x_aload_n 0)), (6, .inr (.inr (.inr (2, 7)))), (9, .inl (s_x_aload_n 0)), (10, .inl (s_x_iconst (-1))), (11, .inl (s_x_putfield 13)), (14, .inl (s_x_aload_n 0)), (15, .inl (s_x_aload_n 0)), (16, .inl (s_x_getfield 1)), (19, .inl (s_x_getfield 17)), (22, .inl (s_x_putfield 22)), (25, .inr (.inr (.inl 4)))]
theorem gw_43_0 : gj_43_0 = gi_43_0.map (fun e => (e.1, s_op e.2.1)) := rfl
noncomputable def gj_43 : List (List (Nat × sOp)) := [gj_43_0]
theorem gw_43 : gj_43 = gi_43.map (fun ch => ch.map (fun e => (e.1, s_op e.2.1))) := by
  unfold gj_43 gi_43
  simp only [gw_43_0, List.map_cons, List.map_nil]
noncomputable def gj_44_0 : List (Nat × sOp) := [(0, .inl (s_x_new 267)), (3, .inl s_x_dup), (4, .inl (s_x_aload_n 0)), (5, .inr (.inr (.inr (2, 269)))), (8, .inr (.inr (.inl 3)))]
theorem gw_44_0 : gj_44_0 = gi_44_0.map (fun e => (e.1, s_op e.2.1)) := rfl
noncomputable def gj_44 : List (List (Nat × sOp)) := [gj_44_0]
theorem gw_44 : gj_44 = gi_44.map (fun ch => ch.map (fun e => (e.1, s_op e.2.1))) := by
  unfold gj_44 gi_44
  simp only [gw_44_0, List.map_cons, List.map_nil]
noncomputable def gj_45_0 : List (Nat × sOp) := [(0, .inl (s_x_aload_n 0)), (1, .inl (s_x_getfield 25)), (4, .inl (s_x_aload_n 0)), (5, .inl (s_x_getfield 1)), (8, .inl (s_x_getfield 28)), (11, .inr (.inl (s_sp_ic, (s_x_if_icmp .eq 7)))), (14, .inl (s_x_iconst 1)), (15, .inl (s_x_goto 4)), (18, .inl (s_x_iconst 0)), (19, .inr (.inr (.inl 0)))]
theorem gw_45_0 : gj_45_0 = gi_45_0.map (fun e => (e.1, s_op e.2.1)) := rfl
noncomputable def gj_45 : List (List (Nat × sOp)) := [gj_45_0]
theorem gw_45 : gj_45 = gi_45.map (fun ch => ch.map (fun e => (e.1, s_op e.2.1))) := by
  unfold gj_45 gi_45
  simp only [gw_45_0, List.map_cons, List.map_nil]
noncomputable def gj_46_0 : List (Nat × sOp) := [(0, .inl (s_x_aload_n 0)), (1, .inl (s_x_iconst 0)), (2, .inl (s_x_putfield 23)), (5, .inl (s_x_aload_n 0)), (6, .inl (s_x_iload_n 1)), (7, .inr (.inr (.inr (1, 53)))), (10, .inr (.inl (s_sp_if, (s_x_ifCond .eq 11)))), (13, .inl (s_x_aload_n 0)), (14, .inl (s_x_iload_n 2)), (15, .inr (.inr (.inr (1, 57)))), (18, .inr (.inl (s_sp_if, (s_x_ifCond .ne 9)))), (21, .inl (s_x_aload_n 0)), (22, .inl (s_x_iconst 1)), (23, .inr (.inr (.inr (1, 41)))), (26, .inr (.inr (.inl 0))), (27, .inl (s_x_iload_n 3)), (28, .inl (s_x_iconst 0)), (29, .inl (s_x_bipush 120)), (31, .inr (.inr (.inr (0, 34))))]
theorem gw_46_0 : gj_46_0 = gi_46_0.map (fun e => (e.1, s_op e.2.1)) := rfl
noncomputable def gj_46_1 : List (Nat × sOp) := [(34, .inr (.inl (s_sp_if, (s_x_ifCond .eq 25)))), (37, .inl (s_x_iload 4)), (39, .inl (s_x_iconst 1)), (40, .inl (s_x_bipush 6)), (42, .inr (.inr (.inr (0, 34)))), (45, .inr (.inl (s_sp_if, (s_x_ifCond .eq 14)))), (48, .inl (s_x_iload 5)), (50, .inl (s_x_iconst 0)), (51, .inl (s_x_bipush 20)), (53, .inr (.inr (.inr (0, 34)))), (56, .inr (.inl (s_sp_if, (s_x_ifCond .ne 9)))), (59, .inl (s_x_aload_n 0)), (60, .inl (s_x_iconst 2)), (61, .inr (.inr (.inr (1, 41))))]
theorem gw_46_1 : gj_46_1 = gi_46_1.map (fun e => (e.1, s_op e.2.1)) := rfl
noncomputable def gj_46_2 : List (Nat × sOp) := [(64, .inr (.inr (.inl 0))), (65, .inl (s_x_aload_n 0)), (66, .inl (s_x_getfield 19)), (69, .inl (s_x_getfield 38)), (72, .inl (s_x_iload_n 1)), (73, .inr (.inr (.inr (1, 60)))), (76, .inl s_x_no), (79, .inl (s_x_astore 6)), (81, .inl (s_x_aload_n 0)), (82, .inl (s_x_getfield 19)), (85, .inl (s_x_getfield 64)), (88, .inl (s_x_iload_n 1)), (89, .inr (.inl (s_sp_ic, (s_x_if_icmp .eq 17)))), (92, .inl (s_x_aload 6)), (94, .inr (.inr (.inr (1, 30))))]
theorem gw_46_2 : gj_46_2 = gi_46_2.map (fun e => (e.1, s_op e.2.1)) := rfl
noncomputable def gj_46_3 : List (Nat × sOp) := [(97, .inl (s_x_bipush 6)), (99, .inr (.inl (s_sp_ic, (s_x_if_icmp .ge 7)))), (102, .inl (s_x_iconst 1)), (103, .inl (s_x_goto 4)), (106, .inl (s_x_iconst 0)), (107, .inl (s_x_istore 7)), (109, .inl (s_x_aload 6)), (111, .inr (.inr (.inr (1, 67)))), (114, .inl (s_x_astore 8)), (116, .inl (s_x_aload 8)), (118, .inr (.inr (.inr (3, 71)))), (123, .inr (.inl (s_sp_if, (s_x_ifCond .eq 36)))), (126, .inl (s_x_aload 8))]
theorem gw_46_3 : gj_46_3 = gi_46_3.map (fun e => (e.1, s_op e.2.1)) := rfl
noncomputable def gj_46_4 : List (Nat × sOp) := [(128, .inr (.inr (.inr (3, 77)))), (133, .inl s_x_no), (136, .inl (s_x_astore 9)), (138, .inl (s_x_iload 7)), (140, .inl (s_x_aload 9)), (142, .inl (s_x_iconst 0)), (143, .inr (.inl (s_sp_ia, s_x_iaload))), (144, .inl (s_x_iload_n 2)), (145, .inr (.inl (s_sp_ic, (s_x_if_icmp .eq 7)))), (148, .inl (s_x_iconst 1)), (149, .inl (s_x_goto 4)), (152, .inl (s_x_iconst 0)), (153, .inl s_x_iand), (154, .inl (s_x_istore 7)), (156, .inl (s_x_goto (-40))), (159, .inl (s_x_iload 7))]
theorem gw_46_4 : gj_46_4 = gi_46_4.map (fun e => (e.1, s_op e.2.1)) := rfl
noncomputable def gj_46_5 : List (Nat × sOp) := [(161, .inr (.inl (s_sp_if, (s_x_ifCond .ne 9)))), (164, .inl (s_x_aload_n 0)), (165, .inl (s_x_iconst 3)), (166, .inr (.inr (.inr (1, 41)))), (169, .inr (.inr (.inl 0))), (170, .inl (s_x_bipush 6)), (172, .inl (s_x_newarray .int)), (174, .inl s_x_dup), (175, .inl (s_x_iconst 0)), (176, .inl (s_x_iload_n 2)), (177, .inl s_x_iastore), (178, .inl s_x_dup), (179, .inl (s_x_iconst 1)), (180, .inl (s_x_iload_n 3)), (181, .inl s_x_iastore), (182, .inl s_x_dup), (183, .inl (s_x_iconst 2)), (184, .inl (s_x_iload 4)), (186, .inl s_x_iastore), (187, .inl s_x_dup), (188, .inl (s_x_iconst 3)), (189, .inl (s_x_iload 5)), (191, .inl s_x_iastore)]
theorem gw_46_5 : gj_46_5 = gi_46_5.map (fun e => (e.1, s_op e.2.1)) := rfl
noncomputable def gj_46_6 : List (Nat × sOp) := [(192, .inl s_x_dup), (193, .inl (s_x_iconst 4)), (194, .inl (s_x_iconst (-1))), (195, .inl s_x_iastore), (196, .inl s_x_dup), (197, .inl (s_x_iconst 5)), (198, .inl (s_x_iconst 0)), (199, .inl s_x_iastore), (200, .inl (s_x_astore 8)), (202, .inl (s_x_aload 6)), (204, .inl (s_x_aload 8)), (206, .inr (.inr (.inr (1, 45)))), (209, .inl s_x_pop), (210, .inl (s_x_aload 6)), (212, .inr (.inr (.inr (1, 30)))), (215, .inl (s_x_iconst 1)), (216, .inl s_x_isub), (217, .inr (.inr (.inl 0)))]
theorem gw_46_6 : gj_46_6 = gi_46_6.map (fun e => (e.1, s_op e.2.1)) := rfl
noncomputable def gj_46 : List (List (Nat × sOp)) := [gj_46_0, gj_46_1, gj_46_2, gj_46_3, gj_46_4, gj_46_5, gj_46_6]
theorem gw_46 : gj_46 = gi_46.map (fun ch => ch.map (fun e => (e.1, s_op e.2.1))) := by
  unfold gj_46 gi_46
  simp only [gw_46_0, gw_46_1, gw_46_2, gw_46_3, gw_46_4, gw_46_5, gw_46_6, List.map_cons, List.map_nil]
noncomputable def gj_47_0 : List (Nat × sOp) := [(0, .inl (s_x_iload_n 1)), (1, .inr (.inl (s_sp_if, (s_x_ifCond .lt 8)))), (4, .inl (s_x_iload_n 1)), (5, .inl (s_x_iconst 5)), (6, .inr (.inl (s_sp_ic, (s_x_if_icmp .le 13)))), (9, .inl (s_x_new 30)), (12, .inl s_x_dup), (13, .inl (s_x_ldc 146)), (15, .inr (.inr (.inr (2, 34)))), (18, .inl s_x_no), (19, .inl (s_x_aload_n 0)), (20, .inl (s_x_getfield 10)), (23, .inl (s_x_getfield 148)), (26, .inl (s_x_istore_n 2)), (27, .inl (s_x_aload_n 0)), (28, .inl (s_x_getfield 10)), (31, .inl (s_x_iload_n 1))]
theorem gw_47_0 : gj_47_0 = gi_47_0.map (fun e => (e.1, s_op e.2.1)) := rfl
noncomputable def gj_47_1 : List (Nat × sOp) := [(32, .inl (s_x_putfield 148)), (35, .inl (s_x_iload_n 2)), (36, .inr (.inr (.inl 0)))]
theorem gw_47_1 : gj_47_1 = gi_47_1.map (fun e => (e.1, s_op e.2.1)) := rfl
noncomputable def gj_47 : List (List (Nat × sOp)) := [gj_47_0, gj_47_1]
theorem gw_47 : gj_47 = gi_47.map (fun ch => ch.map (fun e => (e.1, s_op e.2.1))) := by
  unfold gj_47 gi_47
  simp only [gw_47_0, gw_47_1, List.map_cons, List.map_nil]
noncomputable def gj_48_0 : List (Nat × sOp) := [(0, .inl (s_x_aload_n 2)), (1, .inl (s_x_iconst 0)), (2, .inl (s_x_aload_n 0)), (3, .inl (s_x_iload_n 1)), (4, .inr (.inr (.inr (1, 31)))), (7, .inl s_x_i2l), (8, .inl s_x_lastore), (9, .inl (s_x_goto 6)), (12, .inl (s_x_astore_n 3)), (13, .inl (s_x_iconst 1)), (14, .inr (.inr (.inl 0))), (15, .inl (s_x_iconst 0)), (16, .inr (.inr (.inl 0)))]
theorem gw_48_0 : gj_48_0 = gi_48_0.map (fun e => (e.1, s_op e.2.1)) := rfl
noncomputable def gj_48 : List (List (Nat × sOp)) := [gj_48_0]
theorem gw_48 : gj_48 = gi_48.map (fun ch => ch.map (fun e => (e.1, s_op e.2.1))) := by
  unfold gj_48 gi_48
  simp only [gw_48_0, List.map_cons, List.map_nil]
noncomputable def gj_49_0 : List (Nat × sOp) := [(0, .inl (s_x_aload_n 0)), (1, .inl (s_x_iconst 0)), (2, .inl (s_x_putfield 23)), (5, .inl (s_x_iload_n 1)), (6, .inl (s_x_iconst 0)), (7, .inl (s_x_iconst 5)), (8, .inr (.inr (.inr (0, 34)))), (11, .inr (.inl (s_sp_if, (s_x_ifCond .ne 9)))), (14, .inl (s_x_aload_n 0)), (15, .inl (s_x_iconst 1)), (16, .inr (.inr (.inr (1, 41)))), (19, .inr (.inr (.inl 0))), (20, .inl (s_x_aload_n 0)), (21, .inl (s_x_getfield 19)), (24, .inl (s_x_getfield 82)), (27, .inl (s_x_istore_n 2)), (28, .inl (s_x_aload_n 0)), (29, .inl (s_x_getfield 19))]
theorem gw_49_0 : gj_49_0 = gi_49_0.map (fun e => (e.1, s_op e.2.1)) := rfl
noncomputable def gj_49_1 : List (Nat × sOp) := [(32, .inl (s_x_iload_n 1)), (33, .inl (s_x_putfield 82)), (36, .inl (s_x_iload_n 2)), (37, .inr (.inr (.inl 0)))]
theorem gw_49_1 : gj_49_1 = gi_49_1.map (fun e => (e.1, s_op e.2.1)) := rfl
noncomputable def gj_49 : List (List (Nat × sOp)) := [gj_49_0, gj_49_1]
theorem gw_49 : gj_49 = gi_49.map (fun ch => ch.map (fun e => (e.1, s_op e.2.1))) := by
  unfold gj_49 gi_49
  simp only [gw_49_0, gw_49_1, List.map_cons, List.map_nil]
noncomputable def gj_50_0 : List (Nat × sOp) := [(0, .inl (s_x_aload_n 0)), (1, .inl (s_x_getfield 10)), (4, .inl (s_x_iload_n 1)), (5, .inr (.inr (.inr (1, 102)))), (8, .inl (s_x_astore 4)), (10, .inl (s_x_aload 4)), (12, .inl (s_x_getfield 151)), (15, .inl (s_x_istore 5)), (17, .inl (s_x_aload 4)), (19, .inl (s_x_iload_n 2)), (20, .inl (s_x_putfield 151)), (23, .inl (s_x_aload 4)), (25, .inl (s_x_iload_n 3)), (26, .inl (s_x_putfield 154)), (29, .inl (s_x_iload 5)), (31, .inr (.inr (.inl 0)))]
theorem gw_50_0 : gj_50_0 = gi_50_0.map (fun e => (e.1, s_op e.2.1)) := rfl
noncomputable def gj_50 : List (List (Nat × sOp)) := [gj_50_0]
theorem gw_50 : gj_50 = gi_50.map (fun ch => ch.map (fun e => (e.1, s_op e.2.1))) := by
  unfold gj_50 gi_50
  simp only [gw_50_0, List.map_cons, List.map_nil]
noncomputable def gj_51_0 : List (Nat × sOp) := [(0, .inl (s_x_aload 4)), (2, .inl (s_x_iconst 0)), (3, .inl (s_x_aload_n 0)), (4, .inl (s_x_iload_n 1)), (5, .inl (s_x_iload_n 2)), (6, .inl (s_x_iload_n 3)), (7, .inr (.inr (.inr (1, 34)))), (10, .inr (.inl (s_sp_if, (s_x_ifCond .eq 7)))), (13, .inl (s_x_lconst 1)), (14, .inl (s_x_goto 4)), (17, .inl (s_x_lconst 0)), (18, .inl s_x_lastore), (19, .inl (s_x_goto 7)), (22, .inl (s_x_astore 5)), (24, .inl (s_x_iconst 1)), (25, .inr (.inr (.inl 0))), (26, .inl (s_x_iconst 0)), (27, .inr (.inr (.inl 0)))]
theorem gw_51_0 : gj_51_0 = gi_51_0.map (fun e => (e.1, s_op e.2.1)) := rfl
noncomputable def gj_51 : List (List (Nat × sOp)) := [gj_51_0]
theorem gw_51 : gj_51 = gi_51.map (fun ch => ch.map (fun e => (e.1, s_op e.2.1))) := by
  unfold gj_51 gi_51
  simp only [gw_51_0, List.map_cons, List.map_nil]
noncomputable def gj_52_0 : List (Nat × sOp) := [(0, .inl (s_x_aload_n 0)), (1, .inl (s_x_aload_n 0)), (2, .inl (s_x_iload_n 1)), (3, .inr (.inr (.inr (1, 57)))), (6, .inr (.inl (s_sp_if, (s_x_ifCond .eq 7)))), (9, .inl (s_x_iconst 0)), (10, .inl (s_x_goto 4)), (13, .inl (s_x_iconst 1)), (14, .inl (s_x_putfield 23)), (17, .inl (s_x_aload_n 0)), (18, .inl (s_x_getfield 23)), (21, .inr (.inl (s_sp_if, (s_x_ifCond .le 5)))), (24, .inl (s_x_iconst 0)), (25, .inr (.inr (.inl 0))), (26, .inl (s_x_aload_n 0)), (27, .inl (s_x_getfield 19)), (30, .inl (s_x_getfield 27))]
theorem gw_52_0 : gj_52_0 = gi_52_0.map (fun e => (e.1, s_op e.2.1)) := rfl
noncomputable def gj_52_1 : List (Nat × sOp) := [(33, .inl (s_x_iload_n 1)), (34, .inr (.inr (.inr (1, 60)))), (37, .inl s_x_no), (40, .inl (s_x_astore 4)), (42, .inl (s_x_aload 4)), (44, .inl (s_x_iconst 4)), (45, .inr (.inl (s_sp_ia, s_x_iaload))), (46, .inl (s_x_iconst 1)), (47, .inr (.inl (s_sp_ic, (s_x_if_icmp .ne 7)))), (50, .inl (s_x_iconst 1)), (51, .inl (s_x_goto 4)), (54, .inl (s_x_iconst 0)), (55, .inl (s_x_istore 5)), (57, .inl (s_x_aload 4)), (59, .inl (s_x_iconst 4)), (60, .inl (s_x_iload_n 2)), (61, .inr (.inl (s_sp_if, (s_x_ifCond .eq 7))))]
theorem gw_52_1 : gj_52_1 = gi_52_1.map (fun e => (e.1, s_op e.2.1)) := rfl
noncomputable def gj_52_2 : List (Nat × sOp) := [(64, .inl (s_x_iconst 1)), (65, .inl (s_x_goto 4)), (68, .inl (s_x_iconst 0)), (69, .inl s_x_iastore), (70, .inl (s_x_aload 4)), (72, .inl (s_x_iconst 5)), (73, .inl (s_x_iload_n 3)), (74, .inr (.inl (s_sp_if, (s_x_ifCond .eq 7)))), (77, .inl (s_x_iconst 1)), (78, .inl (s_x_goto 4)), (81, .inl (s_x_iconst 0)), (82, .inl s_x_iastore), (83, .inl (s_x_iload 5)), (85, .inr (.inr (.inl 0)))]
theorem gw_52_2 : gj_52_2 = gi_52_2.map (fun e => (e.1, s_op e.2.1)) := rfl
noncomputable def gj_52 : List (List (Nat × sOp)) := [gj_52_0, gj_52_1, gj_52_2]
theorem gw_52 : gj_52 = gi_52.map (fun ch => ch.map (fun e => (e.1, s_op e.2.1))) := by
  unfold gj_52 gi_52
  simp only [gw_52_0, gw_52_1, gw_52_2, List.map_cons, List.map_nil]
noncomputable def gj_53_0 : List (Nat × sOp) := [(0, .inl (s_x_iload_n 1)), (1, .inr (.inl (s_sp_if, (s_x_ifCond .lt 11)))), (4, .inl (s_x_iload_n 1)), (5, .inl (s_x_aload_n 0)), (6, .inl (s_x_getfield 68)), (9, .inr (.inl (s_sp_ic, (s_x_if_icmp .lt 14)))), (12, .inl (s_x_new 329)), (15, .inl s_x_dup), (16, .inl s_x_no), (19, .inr (.inr (.inr (2, 333)))), (22, .inl s_x_no), (23, .inl (s_x_aload_n 0)), (24, .inl (s_x_getfield 21)), (27, .inl (s_x_iload_n 1)), (28, .inl s_x_aaload), (29, .inr (.inr (.inl 3)))]
theorem gw_53_0 : gj_53_0 = gi_53_0.map (fun e => (e.1, s_op e.2.1)) := rfl
noncomputable def gj_53 : List (List (Nat × sOp)) := [gj_53_0]
theorem gw_53 : gj_53 = gi_53.map (fun ch => ch.map (fun e => (e.1, s_op e.2.1))) := by
  unfold gj_53 gi_53
  simp only [gw_53_0, List.map_cons, List.map_nil]
noncomputable def gj_54_0 : List (Nat × sOp) := [(0, .inl (s_x_aload_n 0)), (1, .inl (s_x_getfield 10)), (4, .inl (s_x_getfield 112)), (7, .inl (s_x_iconst (-1))), (8, .inr (.inl (s_sp_ic, (s_x_if_icmp .eq 13)))), (11, .inl (s_x_new 41)), (14, .inl s_x_dup), (15, .inl (s_x_ldc 189)), (17, .inr (.inr (.inr (2, 45)))), (20, .inl s_x_no), (21, .inl (s_x_aload_n 1)), (22, .inl (s_x_getfield 223)), (25, .inr (.inl (s_sp_if, (s_x_ifCond .le 14)))), (28, .inl (s_x_new 41)), (31, .inl s_x_dup)]
theorem gw_54_0 : gj_54_0 = gi_54_0.map (fun e => (e.1, s_op e.2.1)) := rfl
noncomputable def gj_54_1 : List (Nat × sOp) := [(32, .inl s_x_no), (35, .inr (.inr (.inr (2, 45)))), (38, .inl s_x_no), (39, .inr (.inr (.inl 4)))]
theorem gw_54_1 : gj_54_1 = gi_54_1.map (fun e => (e.1, s_op e.2.1)) := rfl
noncomputable def gj_54 : List (List (Nat × sOp)) := [gj_54_0, gj_54_1]
theorem gw_54 : gj_54 = gi_54.map (fun ch => ch.map (fun e => (e.1, s_op e.2.1))) := by
  unfold gj_54 gi_54
  simp only [gw_54_0, gw_54_1, List.map_cons, List.map_nil]
noncomputable def gj_55_0 : List (Nat × sOp) := [(0, .inl (s_x_aload_n 1)), (1, .inl (s_x_iconst 0)), (2, .inl (s_x_putfield 168)), (5, .inl (s_x_aload_n 1)), (6, .inl (s_x_iconst 0)), (7, .inl (s_x_putfield 226)), (10, .inl (s_x_aload_n 1)), (11, .inl (s_x_iconst 0)), (12, .inl (s_x_putfield 229)), (15, .inl (s_x_iconst 0)), (16, .inl (s_x_istore_n 2)), (17, .inl (s_x_iload_n 2)), (18, .inl (s_x_aload_n 0)), (19, .inl (s_x_getfield 68)), (22, .inr (.inl (s_sp_ic, (s_x_if_icmp .ge 70)))), (25, .inl (s_x_aload_n 0)), (26, .inl (s_x_getfield 21)), (29, .inl (s_x_iload_n 2)), (30, .inl s_x_aaload), (31, .inl (s_x_astore_n 3))]
theorem gw_55_0 : gj_55_0 = gi_55_0.map (fun e => (e.1, s_op e.2.1)) := rfl
noncomputable def gj_55_1 : List (Nat × sOp) := [(32, .inl (s_x_aload_n 3)), (33, .inl (s_x_getfield 161)), (36, .inl (s_x_aload_n 1)), (37, .inl (s_x_getfield 59)), (40, .inr (.inl (s_sp_ic, (s_x_if_icmp .ne 46)))), (43, .inl (s_x_aload_n 1)), (44, .inl s_x_dup), (45, .inl (s_x_getfield 168)), (48, .inl (s_x_aload_n 3)), (49, .inl (s_x_getfield 73)), (52, .inl s_x_iadd), (53, .inl (s_x_putfield 168)), (56, .inl (s_x_aload_n 1)), (57, .inl (s_x_aload_n 1)), (58, .inl (s_x_getfield 226)), (61, .inl (s_x_aload_n 3)), (62, .inl (s_x_getfield 76))]
theorem gw_55_1 : gj_55_1 = gi_55_1.map (fun e => (e.1, s_op e.2.1)) := rfl
noncomputable def gj_55_2 : List (Nat × sOp) := [(65, .inr (.inr (.inr (0, 338)))), (68, .inl (s_x_putfield 226)), (71, .inl (s_x_aload_n 1)), (72, .inl (s_x_aload_n 1)), (73, .inl (s_x_getfield 229)), (76, .inl (s_x_aload_n 3)), (77, .inl (s_x_getfield 79)), (80, .inr (.inr (.inr (0, 338)))), (83, .inl (s_x_putfield 229)), (86, .inl (s_x_iinc 2 1)), (89, .inl (s_x_goto (-72))), (92, .inr (.inr (.inl 4)))]
theorem gw_55_2 : gj_55_2 = gi_55_2.map (fun e => (e.1, s_op e.2.1)) := rfl
noncomputable def gj_55 : List (List (Nat × sOp)) := [gj_55_0, gj_55_1, gj_55_2]
theorem gw_55 : gj_55 = gi_55.map (fun ch => ch.map (fun e => (e.1, s_op e.2.1))) := by
  unfold gj_55 gi_55
  simp only [gw_55_0, gw_55_1, gw_55_2, List.map_cons, List.map_nil]
noncomputable def gj_56_0 : List (Nat × sOp) := [(0, .inl (s_x_aload_n 0)), (1, .inl (s_x_iload_n 1)), (2, .inr (.inr (.inr (1, 157)))), (5, .inl (s_x_astore_n 3)), (6, .inl (s_x_aload_n 0)), (7, .inl (s_x_getfield 10)), (10, .inl (s_x_iload_n 2)), (11, .inr (.inr (.inr (1, 102)))), (14, .inl (s_x_astore 4)), (16, .inl (s_x_aload_n 3)), (17, .inl (s_x_getfield 161)), (20, .inl (s_x_iconst (-1))), (21, .inr (.inl (s_sp_ic, (s_x_if_icmp .eq 13)))), (24, .inl (s_x_new 41)), (27, .inl s_x_dup), (28, .inl (s_x_ldc 162)), (30, .inr (.inr (.inr (2, 45))))]
theorem gw_56_0 : gj_56_0 = gi_56_0.map (fun e => (e.1, s_op e.2.1)) := rfl
noncomputable def gj_56_1 : List (Nat × sOp) := [(33, .inl s_x_no), (34, .inl (s_x_aload_n 0)), (35, .inl (s_x_aload 4)), (37, .inr (.inr (.inr (1, 164)))), (40, .inl (s_x_aload 4)), (42, .inl (s_x_getfield 168)), (45, .inl (s_x_aload_n 3)), (46, .inl (s_x_getfield 73)), (49, .inl s_x_iadd), (50, .inl (s_x_aload 4)), (52, .inl (s_x_getfield 56)), (55, .inr (.inl (s_sp_ic, (s_x_if_icmp .le 13)))), (58, .inl (s_x_new 41)), (61, .inl s_x_dup), (62, .inl (s_x_ldc 171))]
theorem gw_56_1 : gj_56_1 = gi_56_1.map (fun e => (e.1, s_op e.2.1)) := rfl
noncomputable def gj_56_2 : List (Nat × sOp) := [(64, .inr (.inr (.inr (2, 45)))), (67, .inl s_x_no), (68, .inl (s_x_aload_n 3)), (69, .inl (s_x_aload 4)), (71, .inl (s_x_getfield 59)), (74, .inl (s_x_putfield 161)), (77, .inl (s_x_aload_n 0)), (78, .inl (s_x_aload 4)), (80, .inr (.inr (.inr (1, 173)))), (83, .inl (s_x_aload 4)), (85, .inl (s_x_getfield 168)), (88, .inr (.inr (.inl 0)))]
theorem gw_56_2 : gj_56_2 = gi_56_2.map (fun e => (e.1, s_op e.2.1)) := rfl
noncomputable def gj_56 : List (List (Nat × sOp)) := [gj_56_0, gj_56_1, gj_56_2]
theorem gw_56 : gj_56 = gi_56.map (fun ch => ch.map (fun e => (e.1, s_op e.2.1))) := by
  unfold gj_56 gi_56
  simp only [gw_56_0, gw_56_1, gw_56_2, List.map_cons, List.map_nil]
noncomputable def gj_57_0 : List (Nat × sOp) := [(0, .inl (s_x_aload_n 3)), (1, .inl (s_x_iconst 0)), (2, .inl (s_x_aload_n 0)), (3, .inl (s_x_iload_n 1)), (4, .inl (s_x_iload_n 2)), (5, .inr (.inr (.inr (1, 38)))), (8, .inl s_x_i2l), (9, .inl s_x_lastore), (10, .inl (s_x_goto 11)), (13, .inl (s_x_astore 4)), (15, .inl (s_x_iconst 1)), (16, .inr (.inr (.inl 0))), (17, .inl (s_x_astore 4)), (19, .inl (s_x_iconst 2)), (20, .inr (.inr (.inl 0))), (21, .inl (s_x_iconst 0)), (22, .inr (.inr (.inl 0)))]
theorem gw_57_0 : gj_57_0 = gi_57_0.map (fun e => (e.1, s_op e.2.1)) := rfl
noncomputable def gj_57 : List (List (Nat × sOp)) := [gj_57_0]
theorem gw_57 : gj_57 = gi_57.map (fun ch => ch.map (fun e => (e.1, s_op e.2.1))) := by
  unfold gj_57 gi_57
  simp only [gw_57_0, List.map_cons, List.map_nil]
noncomputable def gj_58_0 : List (Nat × sOp) := [(0, .inl (s_x_iload_n 1)), (1, .inl (s_x_iconst 0)), (2, .inl (s_x_aload_n 0)), (3, .inl (s_x_getfield 10)), (6, .inr (.inr (.inr (1, 30)))), (9, .inl (s_x_iconst 1)), (10, .inl s_x_isub), (11, .inr (.inr (.inr (0, 34)))), (14, .inr (.inr (.inl 0)))]
theorem gw_58_0 : gj_58_0 = gi_58_0.map (fun e => (e.1, s_op e.2.1)) := rfl
noncomputable def gj_58 : List (List (Nat × sOp)) := [gj_58_0]
theorem gw_58 : gj_58 = gi_58.map (fun ch => ch.map (fun e => (e.1, s_op e.2.1))) := by
  unfold gj_58 gi_58
  simp only [gw_58_0, List.map_cons, List.map_nil]
noncomputable def gj_59_0 : List (Nat × sOp) := [(0, .inl (s_x_aload_n 0)), (1, .inl (s_x_getfield 19)), (4, .inl (s_x_getfield 64)), (7, .inl (s_x_iconst (-1))), (8, .inr (.inl (s_sp_ic, (s_x_if_icmp .ne 26)))), (11, .inl (s_x_aload_n 0)), (12, .inl (s_x_getfield 19)), (15, .inl (s_x_getfield 27)), (18, .inl (s_x_iload_n 1)), (19, .inr (.inr (.inr (1, 60)))), (22, .inl s_x_no), (25, .inl (s_x_iconst 2)), (26, .inr (.inl (s_sp_ia, s_x_iaload))), (27, .inr (.inl (s_sp_if, (s_x_ifCond .ne 7)))), (30, .inl (s_x_iconst 1)), (31, .inl (s_x_goto 4))]
theorem gw_59_0 : gj_59_0 = gi_59_0.map (fun e => (e.1, s_op e.2.1)) := rfl
noncomputable def gj_59_1 : List (Nat × sOp) := [(34, .inl (s_x_iconst 0)), (35, .inr (.inr (.inl 0)))]
theorem gw_59_1 : gj_59_1 = gi_59_1.map (fun e => (e.1, s_op e.2.1)) := rfl
noncomputable def gj_59 : List (List (Nat × sOp)) := [gj_59_0, gj_59_1]
theorem gw_59 : gj_59 = gi_59.map (fun ch => ch.map (fun e => (e.1, s_op e.2.1))) := by
  unfold gj_59 gi_59
  simp only [gw_59_0, gw_59_1, List.map_cons, List.map_nil]
noncomputable def gj_60_0 : List (Nat × sOp) := [(0, .inl (s_x_aload_n 0)), (1, .inl (s_x_getfield 19)), (4, .inl (s_x_getfield 27)), (7, .inl (s_x_iload_n 1)), (8, .inr (.inr (.inr (1, 60)))), (11, .inl s_x_no), (14, .inl (s_x_astore_n 2)), (15, .inl (s_x_aload_n 2)), (16, .inl (s_x_bipush 8)), (18, .inl (s_x_iconst 0)), (19, .inl s_x_iastore), (20, .inl (s_x_aload_n 2)), (21, .inl (s_x_bipush 9)), (23, .inl (s_x_iconst 0)), (24, .inl s_x_iastore), (25, .inl (s_x_aload_n 2)), (26, .inl (s_x_bipush 10)), (28, .inl (s_x_iconst 0)), (29, .inl s_x_iastore), (30, .inl (s_x_aload_n 0)), (31, .inl (s_x_getfield 10))]
theorem gw_60_0 : gj_60_0 = gi_60_0.map (fun e => (e.1, s_op e.2.1)) := rfl
noncomputable def gj_60_1 : List (Nat × sOp) := [(34, .inr (.inr (.inr (1, 67)))), (37, .inl (s_x_astore_n 3)), (38, .inl (s_x_aload_n 3)), (39, .inr (.inr (.inr (3, 71)))), (44, .inr (.inl (s_sp_if, (s_x_ifCond .eq 69)))), (47, .inl (s_x_aload_n 3)), (48, .inr (.inr (.inr (3, 77)))), (53, .inl s_x_no), (56, .inl (s_x_astore 4)), (58, .inl (s_x_aload 4)), (60, .inl (s_x_iconst 3)), (61, .inr (.inl (s_sp_ia, s_x_iaload))), (62, .inl (s_x_iload_n 1)), (63, .inr (.inl (s_sp_ic, (s_x_if_icmp .eq 6))))]
theorem gw_60_1 : gj_60_1 = gi_60_1.map (fun e => (e.1, s_op e.2.1)) := rfl
noncomputable def gj_60_2 : List (Nat × sOp) := [(66, .inl (s_x_goto (-28))), (69, .inl (s_x_aload_n 2)), (70, .inl (s_x_bipush 8)), (72, .inl s_x_dup2), (73, .inr (.inl (s_sp_ia, s_x_iaload))), (74, .inl (s_x_aload 4)), (76, .inl (s_x_iconst 0)), (77, .inr (.inl (s_sp_ia, s_x_iaload))), (78, .inl s_x_iadd), (79, .inl s_x_iastore), (80, .inl (s_x_aload_n 2)), (81, .inl (s_x_bipush 9)), (83, .inl (s_x_aload_n 2)), (84, .inl (s_x_bipush 9)), (86, .inr (.inl (s_sp_ia, s_x_iaload))), (87, .inl (s_x_aload 4)), (89, .inl (s_x_iconst 1)), (90, .inr (.inl (s_sp_ia, s_x_iaload))), (91, .inr (.inr (.inr (0, 85)))), (94, .inl s_x_iastore), (95, .inl (s_x_aload_n 2))]
theorem gw_60_2 : gj_60_2 = gi_60_2.map (fun e => (e.1, s_op e.2.1)) := rfl
noncomputable def gj_60_3 : List (Nat × sOp) := [(96, .inl (s_x_bipush 10)), (98, .inl (s_x_aload_n 2)), (99, .inl (s_x_bipush 10)), (101, .inr (.inl (s_sp_ia, s_x_iaload))), (102, .inl (s_x_aload 4)), (104, .inl (s_x_iconst 2)), (105, .inr (.inl (s_sp_ia, s_x_iaload))), (106, .inr (.inr (.inr (0, 85)))), (109, .inl s_x_iastore), (110, .inl (s_x_goto (-72))), (113, .inr (.inr (.inl 4)))]
theorem gw_60_3 : gj_60_3 = gi_60_3.map (fun e => (e.1, s_op e.2.1)) := rfl
noncomputable def gj_60 : List (List (Nat × sOp)) := [gj_60_0, gj_60_1, gj_60_2, gj_60_3]
theorem gw_60 : gj_60 = gi_60.map (fun ch => ch.map (fun e => (e.1, s_op e.2.1))) := by
  unfold gj_60 gi_60
  simp only [gw_60_0, gw_60_1, gw_60_2, gw_60_3, List.map_cons, List.map_nil]
noncomputable def gj_61_0 : List (Nat × sOp) := [(0, .inl (s_x_aload_n 0)), (1, .inl (s_x_iconst 0)), (2, .inl (s_x_putfield 23)), (5, .inl (s_x_aload_n 0)), (6, .inl (s_x_iload_n 1)), (7, .inr (.inr (.inr (1, 91)))), (10, .inr (.inl (s_sp_if, (s_x_ifCond .eq 11)))), (13, .inl (s_x_aload_n 0)), (14, .inl (s_x_iload_n 2)), (15, .inr (.inr (.inr (1, 57)))), (18, .inr (.inl (s_sp_if, (s_x_ifCond .ne 9)))), (21, .inl (s_x_aload_n 0)), (22, .inl (s_x_iconst 1)), (23, .inr (.inr (.inr (1, 41)))), (26, .inr (.inr (.inl 0))), (27, .inl (s_x_aload_n 0)), (28, .inl (s_x_getfield 10)), (31, .inl (s_x_iload_n 1))]
theorem gw_61_0 : gj_61_0 = gi_61_0.map (fun e => (e.1, s_op e.2.1)) := rfl
noncomputable def gj_61_1 : List (Nat × sOp) := [(32, .inr (.inr (.inr (1, 60)))), (35, .inl s_x_no), (38, .inl (s_x_astore_n 3)), (39, .inl (s_x_aload_n 0)), (40, .inl (s_x_getfield 19)), (43, .inl (s_x_getfield 27)), (46, .inl (s_x_iload_n 2)), (47, .inr (.inr (.inr (1, 60)))), (50, .inl s_x_no), (53, .inl (s_x_astore 4)), (55, .inl (s_x_aload_n 3)), (56, .inl (s_x_iconst 3)), (57, .inr (.inl (s_sp_ia, s_x_iaload))), (58, .inl (s_x_iconst (-1))), (59, .inr (.inl (s_sp_ic, (s_x_if_icmp .ne 27)))), (62, .inl (s_x_aload_n 0)), (63, .inl (s_x_iload_n 2))]
theorem gw_61_1 : gj_61_1 = gi_61_1.map (fun e => (e.1, s_op e.2.1)) := rfl
noncomputable def gj_61_2 : List (Nat × sOp) := [(64, .inr (.inr (.inr (1, 94)))), (67, .inr (.inl (s_sp_if, (s_x_ifCond .eq 19)))), (70, .inl (s_x_aload 4)), (72, .inl (s_x_bipush 8)), (74, .inr (.inl (s_sp_ia, s_x_iaload))), (75, .inl (s_x_aload_n 3)), (76, .inl (s_x_iconst 0)), (77, .inr (.inl (s_sp_ia, s_x_iaload))), (78, .inl s_x_iadd), (79, .inl (s_x_aload 4)), (81, .inl (s_x_iconst 1)), (82, .inr (.inl (s_sp_ia, s_x_iaload))), (83, .inr (.inl (s_sp_ic, (s_x_if_icmp .le 9)))), (86, .inl (s_x_aload_n 0)), (87, .inl (s_x_iconst 2)), (88, .inr (.inr (.inr (1, 41)))), (91, .inr (.inr (.inl 0))), (92, .inl (s_x_aload_n 3)), (93, .inl (s_x_iconst 3)), (94, .inl (s_x_iload_n 2)), (95, .inl s_x_iastore)]
theorem gw_61_2 : gj_61_2 = gi_61_2.map (fun e => (e.1, s_op e.2.1)) := rfl
noncomputable def gj_61_3 : List (Nat × sOp) := [(96, .inl (s_x_aload_n 0)), (97, .inl (s_x_iload_n 2)), (98, .inr (.inr (.inr (1, 97)))), (101, .inl (s_x_aload 4)), (103, .inl (s_x_bipush 8)), (105, .inr (.inl (s_sp_ia, s_x_iaload))), (106, .inr (.inr (.inl 0)))]
theorem gw_61_3 : gj_61_3 = gi_61_3.map (fun e => (e.1, s_op e.2.1)) := rfl
noncomputable def gj_61 : List (List (Nat × sOp)) := [gj_61_0, gj_61_1, gj_61_2, gj_61_3]
theorem gw_61 : gj_61 = gi_61.map (fun ch => ch.map (fun e => (e.1, s_op e.2.1))) := by
  unfold gj_61 gi_61
  simp only [gw_61_0, gw_61_1, gw_61_2, gw_61_3, List.map_cons, List.map_nil]
