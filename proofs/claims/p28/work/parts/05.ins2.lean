def gi_54_0 : List (Nat × Instr × Nat) := [(0, .iload_n 1, 1), (1, .iconst 1, 1), (2, .if_icmp .lt 9, 3), (5, .iload_n 1, 1), (6, .bipush 120, 2), (8, .if_icmp .le 13, 3), (11, .new 30, 3), (14, .dup, 1), (15, .ldc 210, 2), (17, .invokespecial 34, 3), (20, .athrow, 1), (21, .aload_n 0, 1), (22, .getfield 10, 3), (25, .getfield 212, 3), (28, .iload_n 1, 1), (29, .iadd, 1), (30, .sipush 3000, 3)]
set_option maxRecDepth 100000 in
theorem gv_54_0 : g_okc cX5_pass gi_54_0 = true := by decide +kernel
def gi_54_1 : List (Nat × Instr × Nat) := [(33, .if_icmp .le 13, 3), (36, .new 41, 3), (39, .dup, 1), (40, .ldc 215, 2), (42, .invokespecial 45, 3), (45, .athrow, 1), (46, .aload_n 0, 1), (47, .getfield 10, 3), (50, .getfield 217, 3), (53, .istore_n 2, 1), (54, .iconst 0, 1), (55, .istore_n 3, 1), (56, .iload_n 3, 1), (57, .iload_n 1, 1), (58, .if_icmp .ge 16, 3), (61, .aload_n 0, 1), (62, .getfield 10, 3)]
set_option maxRecDepth 100000 in
theorem gv_54_1 : g_okc cX5_pass gi_54_1 = true := by decide +kernel
def gi_54_2 : List (Nat × Instr × Nat) := [(65, .invokevirtual 220, 3), (68, .iinc 3 1, 3), (71, .goto (-15), 3), (74, .aload_n 0, 1), (75, .getfield 10, 3), (78, .getfield 217, 3), (81, .iload_n 2, 1), (82, .isub, 1), (83, .ireturn, 1)]
set_option maxRecDepth 100000 in
theorem gv_54_2 : g_okc cX5_pass gi_54_2 = true := by decide +kernel
def gi_54 : List (List (Nat × Instr × Nat)) := [gi_54_0, gi_54_1, gi_54_2]
theorem gv_54 : ∀ ch ∈ gi_54, g_okc cX5_pass ch = true := List.forall_mem_cons.mpr ⟨gv_54_0, List.forall_mem_cons.mpr ⟨gv_54_1, List.forall_mem_cons.mpr ⟨gv_54_2, fun _ h => absurd h List.not_mem_nil⟩⟩⟩
def gi_55_0 : List (Nat × Instr × Nat) := [(0, .iload_n 0, 1), (1, .iload_n 0, 1), (2, .iconst 1, 1), (3, .iushr, 1), (4, .ldc_w 265, 3), (7, .iand, 1), (8, .isub, 1), (9, .istore_n 0, 1), (10, .iload_n 0, 1), (11, .ldc_w 266, 3), (14, .iand, 1), (15, .iload_n 0, 1), (16, .iconst 2, 1), (17, .iushr, 1), (18, .ldc_w 266, 3), (21, .iand, 1), (22, .iadd, 1), (23, .istore_n 0, 1), (24, .iload_n 0, 1), (25, .iload_n 0, 1), (26, .iconst 4, 1), (27, .iushr, 1), (28, .iadd, 1), (29, .ldc_w 267, 3)]
set_option maxRecDepth 100000 in
theorem gv_55_0 : g_okc cJ6_bitCount_0f7a4 gi_55_0 = true := by decide +kernel
def gi_55_1 : List (Nat × Instr × Nat) := [(32, .iand, 1), (33, .istore_n 0, 1), (34, .iload_n 0, 1), (35, .iload_n 0, 1), (36, .bipush 8, 2), (38, .iushr, 1), (39, .iadd, 1), (40, .istore_n 0, 1), (41, .iload_n 0, 1), (42, .iload_n 0, 1), (43, .bipush 16, 2), (45, .iushr, 1), (46, .iadd, 1), (47, .istore_n 0, 1), (48, .iload_n 0, 1), (49, .bipush 63, 2), (51, .iand, 1), (52, .ireturn, 1)]
set_option maxRecDepth 100000 in
theorem gv_55_1 : g_okc cJ6_bitCount_0f7a4 gi_55_1 = true := by decide +kernel
def gi_55 : List (List (Nat × Instr × Nat)) := [gi_55_0, gi_55_1]
theorem gv_55 : ∀ ch ∈ gi_55, g_okc cJ6_bitCount_0f7a4 ch = true := List.forall_mem_cons.mpr ⟨gv_55_0, List.forall_mem_cons.mpr ⟨gv_55_1, fun _ h => absurd h List.not_mem_nil⟩⟩
def gi_56_0 : List (Nat × Instr × Nat) := [(0, .iload_n 1, 1), (1, .newarray .int, 2), (3, .astore_n 2, 1), (4, .iload_n 1, 1), (5, .newarray .int, 2), (7, .astore_n 3, 1), (8, .iload_n 1, 1), (9, .newarray .int, 2), (11, .astore 4, 2), (13, .iconst 5, 1), (14, .newarray .int, 2), (16, .astore 5, 2), (18, .iconst 0, 1), (19, .istore 6, 2), (21, .iload 6, 2), (23, .iload_n 1, 1), (24, .if_icmp .ge 70, 3), (27, .aload_n 2, 1), (28, .iload 6, 2), (30, .aload_n 0, 1), (31, .iload 6, 2)]
set_option maxRecDepth 100000 in
theorem gv_56_0 : g_okc cL_second gi_56_0 = true := by decide +kernel
def gi_56_1 : List (Nat × Instr × Nat) := [(33, .iconst 2, 1), (34, .invokevirtual 37, 3), (37, .iastore, 1), (38, .aload_n 3, 1), (39, .iload 6, 2), (41, .aload_n 0, 1), (42, .iload 6, 2), (44, .bipush 11, 2), (46, .invokevirtual 37, 3), (49, .iastore, 1), (50, .iconst 0, 1), (51, .istore 7, 2), (53, .iload 7, 2), (55, .iload_n 1, 1), (56, .if_icmp .ge 32, 3), (59, .aload_n 0, 1), (60, .iload 6, 2), (62, .iload 7, 2)]
set_option maxRecDepth 100000 in
theorem gv_56_1 : g_okc cL_second gi_56_1 = true := by decide +kernel
def gi_56_2 : List (Nat × Instr × Nat) := [(64, .invokevirtual 107, 3), (67, .ifCond .eq 15, 3), (70, .aload 4, 2), (72, .iload 6, 2), (74, .dup2, 1), (75, .iaload, 1), (76, .iconst 1, 1), (77, .iload 7, 2), (79, .ishl, 1), (80, .ior, 1), (81, .iastore, 1), (82, .iinc 7 1, 3), (85, .goto (-32), 3), (88, .iinc 6 1, 3), (91, .goto (-70), 3), (94, .iconst 0, 1), (95, .istore 6, 2)]
set_option maxRecDepth 100000 in
theorem gv_56_2 : g_okc cL_second gi_56_2 = true := by decide +kernel
def gi_56_3 : List (Nat × Instr × Nat) := [(97, .iload 6, 2), (99, .iconst 5, 1), (100, .if_icmp .ge 23, 3), (103, .aload 5, 2), (105, .iload 6, 2), (107, .aload_n 0, 1), (108, .bipush 10, 2), (110, .iload 6, 2), (112, .iadd, 1), (113, .invokevirtual 34, 3), (116, .iastore, 1), (117, .iinc 6 1, 3), (120, .goto (-23), 3), (123, .aload_n 0, 1), (124, .iconst 5, 1), (125, .invokevirtual 34, 3)]
set_option maxRecDepth 100000 in
theorem gv_56_3 : g_okc cL_second gi_56_3 = true := by decide +kernel
def gi_56_4 : List (Nat × Instr × Nat) := [(128, .istore 6, 2), (130, .aload_n 0, 1), (131, .bipush 6, 2), (133, .invokevirtual 34, 3), (136, .iconst 1, 1), (137, .if_icmp .ne 7, 3), (140, .iconst 1, 1), (141, .goto 4, 3), (144, .iconst 0, 1), (145, .istore 7, 2), (147, .aload_n 0, 1), (148, .bipush 8, 2), (150, .invokevirtual 34, 3), (153, .istore 8, 2), (155, .aload_n 0, 1), (156, .bipush 9, 2), (158, .invokevirtual 34, 3)]
set_option maxRecDepth 100000 in
theorem gv_56_4 : g_okc cL_second gi_56_4 = true := by decide +kernel
def gi_56_5 : List (Nat × Instr × Nat) := [(161, .istore 9, 2), (163, .aload_n 0, 1), (164, .iconst 0, 1), (165, .invokevirtual 34, 3), (168, .istore 10, 2), (170, .aload_n 0, 1), (171, .iconst 1, 1), (172, .invokevirtual 111, 3), (175, .istore 11, 2), (177, .iconst 0, 1), (178, .istore 12, 2), (180, .iconst 0, 1), (181, .istore 13, 2), (183, .iload 13, 2), (185, .iload_n 1, 1), (186, .if_icmp .ge 156, 3), (189, .aload_n 0, 1), (190, .iload 13, 2)]
set_option maxRecDepth 100000 in
theorem gv_56_5 : g_okc cL_second gi_56_5 = true := by decide +kernel
def gi_56_6 : List (Nat × Instr × Nat) := [(192, .iconst 2, 1), (193, .invokevirtual 37, 3), (196, .aload_n 2, 1), (197, .iload 13, 2), (199, .iaload, 1), (200, .isub, 1), (201, .invokestatic 114, 3), (204, .istore 14, 2), (206, .aload_n 0, 1), (207, .iload 13, 2), (209, .bipush 10, 2), (211, .invokevirtual 37, 3), (214, .iconst 1, 1), (215, .if_icmp .ne 8, 3), (218, .bipush 8, 2), (220, .goto 5, 3), (223, .bipush 6, 2)]
set_option maxRecDepth 100000 in
theorem gv_56_6 : g_okc cL_second gi_56_6 = true := by decide +kernel
def gi_56_7 : List (Nat × Instr × Nat) := [(225, .istore 15, 2), (227, .iload 12, 2), (229, .iload 14, 2), (231, .ifCond .le 7, 3), (234, .iconst 1, 1), (235, .goto 4, 3), (238, .iconst 0, 1), (239, .iadd, 1), (240, .istore 12, 2), (242, .iload 14, 2), (244, .iload 15, 2), (246, .if_icmp .gt 47, 3), (249, .aload_n 0, 1), (250, .iload 13, 2), (252, .bipush 11, 2), (254, .invokevirtual 37, 3)]
set_option maxRecDepth 100000 in
theorem gv_56_7 : g_okc cL_second gi_56_7 = true := by decide +kernel
def gi_56_8 : List (Nat × Instr × Nat) := [(257, .aload_n 3, 1), (258, .iload 13, 2), (260, .iaload, 1), (261, .iload 14, 2), (263, .iadd, 1), (264, .if_icmp .ne 29, 3), (267, .iload 14, 2), (269, .ifCond .le 26, 3), (272, .aload_n 0, 1), (273, .iload 13, 2), (275, .bipush 10, 2), (277, .invokevirtual 37, 3), (280, .ifCond .ne 15, 3), (283, .iload 6, 2), (285, .ifCond .lt 8, 3)]
set_option maxRecDepth 100000 in
theorem gv_56_8 : g_okc cL_second gi_56_8 = true := by decide +kernel
def gi_56_9 : List (Nat × Instr × Nat) := [(288, .iload 7, 2), (290, .ifCond .eq 5, 3), (293, .iconst (-1), 1), (294, .ireturn, 1), (295, .iconst 0, 1), (296, .istore 16, 2), (298, .iload 16, 2), (300, .iload_n 1, 1), (301, .if_icmp .ge 35, 3), (304, .aload_n 0, 1), (305, .iload 13, 2), (307, .iload 16, 2), (309, .invokevirtual 107, 3), (312, .ifCond .eq 18, 3), (315, .aload 4, 2), (317, .iload 13, 2), (319, .iaload, 1)]
set_option maxRecDepth 100000 in
theorem gv_56_9 : g_okc cL_second gi_56_9 = true := by decide +kernel
def gi_56_10 : List (Nat × Instr × Nat) := [(320, .iload 16, 2), (322, .ishr, 1), (323, .iconst 1, 1), (324, .iand, 1), (325, .ifCond .ne 5, 3), (328, .iconst (-1), 1), (329, .ireturn, 1), (330, .iinc 16 1, 3), (333, .goto (-35), 3), (336, .iinc 13 1, 3), (339, .goto (-156), 3), (342, .iconst 0, 1), (343, .istore 13, 2), (345, .iload 13, 2), (347, .iconst 5, 1), (348, .if_icmp .ge 28, 3), (351, .aload_n 0, 1)]
set_option maxRecDepth 100000 in
theorem gv_56_10 : g_okc cL_second gi_56_10 = true := by decide +kernel
def gi_56_11 : List (Nat × Instr × Nat) := [(352, .bipush 10, 2), (354, .iload 13, 2), (356, .iadd, 1), (357, .invokevirtual 34, 3), (360, .aload 5, 2), (362, .iload 13, 2), (364, .iaload, 1), (365, .if_icmp .ge 5, 3), (368, .iconst (-1), 1), (369, .ireturn, 1), (370, .iinc 13 1, 3), (373, .goto (-28), 3), (376, .iload 6, 2), (378, .ifCond .lt 12, 3), (381, .iload 7, 2), (383, .ifCond .ne 7, 3)]
set_option maxRecDepth 100000 in
theorem gv_56_11 : g_okc cL_second gi_56_11 = true := by decide +kernel
def gi_56_12 : List (Nat × Instr × Nat) := [(386, .iconst 1, 1), (387, .goto 4, 3), (390, .iconst 0, 1), (391, .istore 13, 2), (393, .iload 13, 2), (395, .ifCond .ne 49, 3), (398, .iload 11, 2), (400, .ifCond .gt 42, 3), (403, .aload_n 0, 1), (404, .bipush 10, 2), (406, .invokevirtual 34, 3), (409, .aload 5, 2), (411, .iconst 0, 1), (412, .iaload, 1), (413, .if_icmp .gt 29, 3)]
set_option maxRecDepth 100000 in
theorem gv_56_12 : g_okc cL_second gi_56_12 = true := by decide +kernel
def gi_56_13 : List (Nat × Instr × Nat) := [(416, .aload_n 0, 1), (417, .bipush 11, 2), (419, .invokevirtual 34, 3), (422, .aload 5, 2), (424, .iconst 1, 1), (425, .iaload, 1), (426, .if_icmp .gt 16, 3), (429, .aload_n 0, 1), (430, .bipush 14, 2), (432, .invokevirtual 34, 3), (435, .aload 5, 2), (437, .iconst 4, 1), (438, .iaload, 1), (439, .if_icmp .le 5, 3), (442, .iconst (-1), 1), (443, .ireturn, 1), (444, .aload_n 0, 1), (445, .iconst 0, 1), (446, .invokevirtual 34, 3)]
set_option maxRecDepth 100000 in
theorem gv_56_13 : g_okc cL_second gi_56_13 = true := by decide +kernel
def gi_56_14 : List (Nat × Instr × Nat) := [(449, .iload 10, 2), (451, .iconst 1, 1), (452, .iadd, 1), (453, .if_icmp .ne 97, 3), (456, .iload 11, 2), (458, .iload 8, 2), (460, .if_icmp .gt 90, 3), (463, .aload_n 0, 1), (464, .bipush 11, 2), (466, .invokevirtual 34, 3), (469, .aload 5, 2), (471, .iconst 1, 1), (472, .iaload, 1), (473, .iconst 1, 1), (474, .iadd, 1), (475, .if_icmp .gt 75, 3), (478, .aload_n 0, 1), (479, .bipush 11, 2)]
set_option maxRecDepth 100000 in
theorem gv_56_14 : g_okc cL_second gi_56_14 = true := by decide +kernel
def gi_56_15 : List (Nat × Instr × Nat) := [(481, .invokevirtual 34, 3), (484, .aload 5, 2), (486, .iconst 1, 1), (487, .iaload, 1), (488, .if_icmp .le 12, 3), (491, .aload_n 0, 1), (492, .bipush 6, 2), (494, .invokevirtual 34, 3), (497, .ifCond .eq 53, 3), (500, .aload_n 0, 1), (501, .bipush 12, 2), (503, .invokevirtual 34, 3), (506, .aload_n 0, 1), (507, .bipush 13, 2), (509, .invokevirtual 34, 3)]
set_option maxRecDepth 100000 in
theorem gv_56_15 : g_okc cL_second gi_56_15 = true := by decide +kernel
def gi_56_16 : List (Nat × Instr × Nat) := [(512, .iadd, 1), (513, .aload 5, 2), (515, .iconst 2, 1), (516, .iaload, 1), (517, .aload 5, 2), (519, .iconst 3, 1), (520, .iaload, 1), (521, .iadd, 1), (522, .iconst 2, 1), (523, .aload_n 0, 1), (524, .bipush 15, 2), (526, .invokevirtual 34, 3), (529, .invokestatic 117, 3), (532, .imul, 1), (533, .iadd, 1), (534, .if_icmp .gt 16, 3), (537, .aload_n 0, 1), (538, .bipush 9, 2), (540, .invokevirtual 34, 3), (543, .iload 9, 2)]
set_option maxRecDepth 100000 in
theorem gv_56_16 : g_okc cL_second gi_56_16 = true := by decide +kernel
def gi_56_17 : List (Nat × Instr × Nat) := [(545, .iconst 1, 1), (546, .iadd, 1), (547, .if_icmp .le 5, 3), (550, .iconst (-1), 1), (551, .ireturn, 1), (552, .aload_n 0, 1), (553, .bipush 9, 2), (555, .invokevirtual 34, 3), (558, .iload 9, 2), (560, .if_icmp .le 12, 3), (563, .iload 6, 2), (565, .ifCond .ge 7, 3), (568, .iconst (-1), 1), (569, .goto 5, 3), (572, .iload 11, 2), (574, .ireturn, 1)]
set_option maxRecDepth 100000 in
theorem gv_56_17 : g_okc cL_second gi_56_17 = true := by decide +kernel
def gi_56 : List (List (Nat × Instr × Nat)) := [gi_56_0, gi_56_1, gi_56_2, gi_56_3, gi_56_4, gi_56_5, gi_56_6, gi_56_7, gi_56_8, gi_56_9, gi_56_10, gi_56_11, gi_56_12, gi_56_13, gi_56_14, gi_56_15, gi_56_16, gi_56_17]
theorem gv_56 : ∀ ch ∈ gi_56, g_okc cL_second ch = true := List.forall_mem_cons.mpr ⟨gv_56_0, List.forall_mem_cons.mpr ⟨gv_56_1, List.forall_mem_cons.mpr ⟨gv_56_2, List.forall_mem_cons.mpr ⟨gv_56_3, List.forall_mem_cons.mpr ⟨gv_56_4, List.forall_mem_cons.mpr ⟨gv_56_5, List.forall_mem_cons.mpr ⟨gv_56_6, List.forall_mem_cons.mpr ⟨gv_56_7, List.forall_mem_cons.mpr ⟨gv_56_8, List.forall_mem_cons.mpr ⟨gv_56_9, List.forall_mem_cons.mpr ⟨gv_56_10, List.forall_mem_cons.mpr ⟨gv_56_11, List.forall_mem_cons.mpr ⟨gv_56_12, List.forall_mem_cons.mpr ⟨gv_56_13, List.forall_mem_cons.mpr ⟨gv_56_14, List.forall_mem_cons.mpr ⟨gv_56_15, List.forall_mem_cons.mpr ⟨gv_56_16, List.forall_mem_cons.mpr ⟨gv_56_17, fun _ h => absurd h List.not_mem_nil⟩⟩⟩⟩⟩⟩⟩⟩⟩⟩⟩⟩⟩⟩⟩⟩⟩⟩
def gi_57_0 : List (Nat × Instr × Nat) := [(0, .aload_n 0, 1), (1, .getfield 10, 3), (4, .getfield 37, 3), (7, .ifCond .ne 5, 3), (10, .dconst 0, 1), (11, .dreturn, 1), (12, .iconst 0, 1), (13, .istore_n 1, 1), (14, .iconst 0, 1), (15, .istore_n 2, 1), (16, .iload_n 2, 1), (17, .aload_n 0, 1), (18, .getfield 10, 3), (21, .getfield 37, 3), (24, .if_icmp .ge 24, 3), (27, .iload_n 1, 1), (28, .aload_n 0, 1), (29, .getfield 10, 3)]
set_option maxRecDepth 100000 in
theorem gv_57_0 : g_okc cX5_meanHeight gi_57_0 = true := by decide +kernel
def gi_57_1 : List (Nat × Instr × Nat) := [(32, .getfield 46, 3), (35, .iload_n 2, 1), (36, .aaload, 1), (37, .getfield 223, 3), (40, .iadd, 1), (41, .istore_n 1, 1), (42, .iinc 2 1, 3), (45, .goto (-29), 3), (48, .iload_n 1, 1), (49, .i2d, 1), (50, .aload_n 0, 1), (51, .getfield 10, 3), (54, .getfield 37, 3), (57, .i2d, 1), (58, .ddiv, 1), (59, .dreturn, 1)]
set_option maxRecDepth 100000 in
theorem gv_57_1 : g_okc cX5_meanHeight gi_57_1 = true := by decide +kernel
def gi_57 : List (List (Nat × Instr × Nat)) := [gi_57_0, gi_57_1]
theorem gv_57 : ∀ ch ∈ gi_57, g_okc cX5_meanHeight ch = true := List.forall_mem_cons.mpr ⟨gv_57_0, List.forall_mem_cons.mpr ⟨gv_57_1, fun _ h => absurd h List.not_mem_nil⟩⟩
def gi_58_0 : List (Nat × Instr × Nat) := [(0, .aload_n 0, 1), (1, .aload_n 1, 1), (2, .getfield 17, 3), (5, .putfield 17, 3), (8, .aload_n 0, 1), (9, .aload_n 1, 1), (10, .getfield 20, 3), (13, .putfield 20, 3), (16, .aload_n 0, 1), (17, .aload_n 1, 1), (18, .getfield 23, 3), (21, .putfield 23, 3), (24, .aload_n 0, 1), (25, .aload_n 1, 1), (26, .getfield 26, 3), (29, .putfield 26, 3)]
set_option maxRecDepth 100000 in
theorem gv_58_0 : g_okc cX0_copyFrom gi_58_0 = true := by decide +kernel
def gi_58_1 : List (Nat × Instr × Nat) := [(32, .aload_n 0, 1), (33, .aload_n 1, 1), (34, .getfield 29, 3), (37, .putfield 29, 3), (40, .aload_n 0, 1), (41, .aload_n 1, 1), (42, .getfield 32, 3), (45, .putfield 32, 3), (48, .aload_n 0, 1), (49, .aload_n 1, 1), (50, .getfield 35, 3), (53, .putfield 35, 3), (56, .aload_n 0, 1), (57, .aload_n 1, 1), (58, .getfield 38, 3), (61, .putfield 38, 3)]
set_option maxRecDepth 100000 in
theorem gv_58_1 : g_okc cX0_copyFrom gi_58_1 = true := by decide +kernel
def gi_58_2 : List (Nat × Instr × Nat) := [(64, .aload_n 0, 1), (65, .aload_n 1, 1), (66, .getfield 7, 3), (69, .putfield 7, 3), (72, .aload_n 0, 1), (73, .aload_n 1, 1), (74, .getfield 41, 3), (77, .putfield 41, 3), (80, .aload_n 0, 1), (81, .aload_n 1, 1), (82, .getfield 44, 3), (85, .putfield 44, 3), (88, .aload_n 0, 1), (89, .aload_n 1, 1), (90, .getfield 47, 3), (93, .putfield 47, 3)]
set_option maxRecDepth 100000 in
theorem gv_58_2 : g_okc cX0_copyFrom gi_58_2 = true := by decide +kernel
def gi_58_3 : List (Nat × Instr × Nat) := [(96, .return_, 1)]
set_option maxRecDepth 100000 in
theorem gv_58_3 : g_okc cX0_copyFrom gi_58_3 = true := by decide +kernel
def gi_58 : List (List (Nat × Instr × Nat)) := [gi_58_0, gi_58_1, gi_58_2, gi_58_3]
theorem gv_58 : ∀ ch ∈ gi_58, g_okc cX0_copyFrom ch = true := List.forall_mem_cons.mpr ⟨gv_58_0, List.forall_mem_cons.mpr ⟨gv_58_1, List.forall_mem_cons.mpr ⟨gv_58_2, List.forall_mem_cons.mpr ⟨gv_58_3, fun _ h => absurd h List.not_mem_nil⟩⟩⟩⟩
def gi_59_0 : List (Nat × Instr × Nat) := [(0, .aload_n 0, 1), (1, .aload_n 1, 1), (2, .getfield 15, 3), (5, .putfield 15, 3), (8, .aload_n 0, 1), (9, .aload_n 1, 1), (10, .getfield 18, 3), (13, .putfield 18, 3), (16, .aload_n 0, 1), (17, .aload_n 1, 1), (18, .getfield 21, 3), (21, .putfield 21, 3), (24, .aload_n 0, 1), (25, .aload_n 1, 1), (26, .getfield 24, 3), (29, .putfield 24, 3)]
set_option maxRecDepth 100000 in
theorem gv_59_0 : g_okc cX2_copyFrom gi_59_0 = true := by decide +kernel
def gi_59_1 : List (Nat × Instr × Nat) := [(32, .aload_n 0, 1), (33, .aload_n 1, 1), (34, .getfield 9, 3), (37, .putfield 9, 3), (40, .aload_n 0, 1), (41, .aload_n 1, 1), (42, .getfield 27, 3), (45, .putfield 27, 3), (48, .return_, 1)]
set_option maxRecDepth 100000 in
theorem gv_59_1 : g_okc cX2_copyFrom gi_59_1 = true := by decide +kernel
def gi_59 : List (List (Nat × Instr × Nat)) := [gi_59_0, gi_59_1]
theorem gv_59 : ∀ ch ∈ gi_59, g_okc cX2_copyFrom ch = true := List.forall_mem_cons.mpr ⟨gv_59_0, List.forall_mem_cons.mpr ⟨gv_59_1, fun _ h => absurd h List.not_mem_nil⟩⟩
def gi_60_0 : List (Nat × Instr × Nat) := [(0, .aload_n 0, 1), (1, .aload_n 1, 1), (2, .getfield 9, 3), (5, .putfield 9, 3), (8, .aload_n 0, 1), (9, .aload_n 1, 1), (10, .getfield 22, 3), (13, .putfield 22, 3), (16, .iconst 0, 1), (17, .istore_n 2, 1), (18, .iload_n 2, 1), (19, .aload_n 0, 1), (20, .getfield 22, 3), (23, .if_icmp .ge 24, 3), (26, .aload_n 0, 1), (27, .getfield 17, 3), (30, .iload_n 2, 1), (31, .aaload, 1)]
set_option maxRecDepth 100000 in
theorem gv_60_0 : g_okc cX1_copyFrom gi_60_0 = true := by decide +kernel
def gi_60_1 : List (Nat × Instr × Nat) := [(32, .aload_n 1, 1), (33, .getfield 17, 3), (36, .iload_n 2, 1), (37, .aaload, 1), (38, .invokevirtual 25, 3), (41, .iinc 2 1, 3), (44, .goto (-26), 3), (47, .return_, 1)]
set_option maxRecDepth 100000 in
theorem gv_60_1 : g_okc cX1_copyFrom gi_60_1 = true := by decide +kernel
def gi_60 : List (List (Nat × Instr × Nat)) := [gi_60_0, gi_60_1]
theorem gv_60 : ∀ ch ∈ gi_60, g_okc cX1_copyFrom ch = true := List.forall_mem_cons.mpr ⟨gv_60_0, List.forall_mem_cons.mpr ⟨gv_60_1, fun _ h => absurd h List.not_mem_nil⟩⟩
def gi_61_0 : List (Nat × Instr × Nat) := [(0, .aload_n 0, 1), (1, .aload_n 1, 1), (2, .getfield 37, 3), (5, .putfield 37, 3), (8, .iconst 0, 1), (9, .istore_n 2, 1), (10, .iload_n 2, 1), (11, .aload_n 0, 1), (12, .getfield 37, 3), (15, .if_icmp .ge 24, 3), (18, .aload_n 0, 1), (19, .getfield 23, 3), (22, .iload_n 2, 1), (23, .aaload, 1), (24, .aload_n 1, 1), (25, .getfield 23, 3), (28, .iload_n 2, 1), (29, .aaload, 1), (30, .invokevirtual 40, 3)]
set_option maxRecDepth 100000 in
theorem gv_61_0 : g_okc cX4_copyFrom gi_61_0 = true := by decide +kernel
def gi_61_1 : List (Nat × Instr × Nat) := [(33, .iinc 2 1, 3), (36, .goto (-26), 3), (39, .aload_n 0, 1), (40, .aload_n 1, 1), (41, .getfield 44, 3), (44, .putfield 44, 3), (47, .iconst 0, 1), (48, .istore_n 2, 1), (49, .iload_n 2, 1), (50, .aload_n 0, 1), (51, .getfield 44, 3), (54, .if_icmp .ge 24, 3), (57, .aload_n 0, 1), (58, .getfield 32, 3), (61, .iload_n 2, 1), (62, .aaload, 1), (63, .aload_n 1, 1)]
set_option maxRecDepth 100000 in
theorem gv_61_1 : g_okc cX4_copyFrom gi_61_1 = true := by decide +kernel
def gi_61_2 : List (Nat × Instr × Nat) := [(64, .getfield 32, 3), (67, .iload_n 2, 1), (68, .aaload, 1), (69, .invokevirtual 47, 3), (72, .iinc 2 1, 3), (75, .goto (-26), 3), (78, .aload_n 0, 1), (79, .aload_n 1, 1), (80, .getfield 9, 3), (83, .putfield 9, 3), (86, .aload_n 0, 1), (87, .aload_n 1, 1), (88, .getfield 50, 3), (91, .putfield 50, 3), (94, .aload_n 0, 1), (95, .aload_n 1, 1)]
set_option maxRecDepth 100000 in
theorem gv_61_2 : g_okc cX4_copyFrom gi_61_2 = true := by decide +kernel
def gi_61_3 : List (Nat × Instr × Nat) := [(96, .getfield 53, 3), (99, .putfield 53, 3), (102, .aload_n 0, 1), (103, .aload_n 1, 1), (104, .getfield 15, 3), (107, .putfield 15, 3), (110, .aload_n 0, 1), (111, .aload_n 1, 1), (112, .getfield 56, 3), (115, .putfield 56, 3), (118, .aload_n 0, 1), (119, .aload_n 1, 1), (120, .getfield 60, 3), (123, .putfield 60, 3), (126, .aload_n 0, 1), (127, .aload_n 1, 1)]
set_option maxRecDepth 100000 in
theorem gv_61_3 : g_okc cX4_copyFrom gi_61_3 = true := by decide +kernel
def gi_61_4 : List (Nat × Instr × Nat) := [(128, .getfield 63, 3), (131, .putfield 63, 3), (134, .aload_n 0, 1), (135, .aload_n 1, 1), (136, .getfield 66, 3), (139, .putfield 66, 3), (142, .aload_n 0, 1), (143, .aload_n 1, 1), (144, .getfield 69, 3), (147, .putfield 69, 3), (150, .aload_n 0, 1), (151, .aload_n 1, 1), (152, .getfield 72, 3), (155, .putfield 72, 3), (158, .aload_n 0, 1), (159, .aload_n 1, 1)]
set_option maxRecDepth 100000 in
theorem gv_61_4 : g_okc cX4_copyFrom gi_61_4 = true := by decide +kernel
def gi_61_5 : List (Nat × Instr × Nat) := [(160, .getfield 75, 3), (163, .putfield 75, 3), (166, .aload_n 0, 1), (167, .aload_n 1, 1), (168, .getfield 78, 3), (171, .putfield 78, 3), (174, .aload_n 0, 1), (175, .aload_n 1, 1), (176, .getfield 81, 3), (179, .putfield 81, 3), (182, .aload_n 0, 1), (183, .iconst (-1), 1), (184, .putfield 18, 3), (187, .return_, 1)]
set_option maxRecDepth 100000 in
theorem gv_61_5 : g_okc cX4_copyFrom gi_61_5 = true := by decide +kernel
def gi_61 : List (List (Nat × Instr × Nat)) := [gi_61_0, gi_61_1, gi_61_2, gi_61_3, gi_61_4, gi_61_5]
theorem gv_61 : ∀ ch ∈ gi_61, g_okc cX4_copyFrom ch = true := List.forall_mem_cons.mpr ⟨gv_61_0, List.forall_mem_cons.mpr ⟨gv_61_1, List.forall_mem_cons.mpr ⟨gv_61_2, List.forall_mem_cons.mpr ⟨gv_61_3, List.forall_mem_cons.mpr ⟨gv_61_4, List.forall_mem_cons.mpr ⟨gv_61_5, fun _ h => absurd h List.not_mem_nil⟩⟩⟩⟩⟩⟩
def gi_62_0 : List (Nat × Instr × Nat) := [(0, .iconst 0, 1), (1, .istore_n 1, 1), (2, .iload_n 1, 1), (3, .aload_n 0, 1), (4, .getfield 37, 3), (7, .if_icmp .ge 19, 3), (10, .aload_n 0, 1), (11, .getfield 23, 3), (14, .iload_n 1, 1), (15, .aaload, 1), (16, .iconst 0, 1), (17, .putfield 93, 3), (20, .iinc 1 1, 3), (23, .goto (-21), 3), (26, .return_, 1)]
set_option maxRecDepth 100000 in
theorem gv_62_0 : g_okc cX4_mendBrakes gi_62_0 = true := by decide +kernel
def gi_62 : List (List (Nat × Instr × Nat)) := [gi_62_0]
theorem gv_62 : ∀ ch ∈ gi_62, g_okc cX4_mendBrakes ch = true := List.forall_mem_cons.mpr ⟨gv_62_0, fun _ h => absurd h List.not_mem_nil⟩
def gi_63_0 : List (Nat × Instr × Nat) := [(0, .aload_n 0, 1), (1, .getfield 16, 3), (4, .aload_n 0, 1), (5, .getfield 10, 3), (8, .invokevirtual 288, 3), (11, .aload_n 0, 1), (12, .getfield 16, 3), (15, .invokevirtual 343, 3), (18, .aload_n 0, 1), (19, .getfield 16, 3), (22, .iload_n 1, 1), (23, .invokevirtual 191, 3), (26, .iconst 1, 1), (27, .istore_n 2, 1), (28, .iload_n 2, 1), (29, .sipush 200, 3)]
set_option maxRecDepth 100000 in
theorem gv_63_0 : g_okc cX5_rehearse gi_63_0 = true := by decide +kernel
def gi_63_1 : List (Nat × Instr × Nat) := [(32, .if_icmp .gt 47, 3), (35, .aload_n 0, 1), (36, .getfield 16, 3), (39, .invokevirtual 220, 3), (42, .aload_n 0, 1), (43, .getfield 16, 3), (46, .getfield 198, 3), (49, .ifCond .eq 5, 3), (52, .iconst (-1), 1), (53, .ireturn, 1), (54, .aload_n 0, 1), (55, .getfield 16, 3), (58, .getfield 258, 3), (61, .aload_n 0, 1), (62, .getfield 10, 3)]
set_option maxRecDepth 100000 in
theorem gv_63_1 : g_okc cX5_rehearse gi_63_1 = true := by decide +kernel
def gi_63_2 : List (Nat × Instr × Nat) := [(65, .getfield 258, 3), (68, .if_icmp .eq 5, 3), (71, .iload_n 2, 1), (72, .ireturn, 1), (73, .iinc 2 1, 3), (76, .goto (-48), 3), (79, .iconst (-1), 1), (80, .ireturn, 1)]
set_option maxRecDepth 100000 in
theorem gv_63_2 : g_okc cX5_rehearse gi_63_2 = true := by decide +kernel
def gi_63 : List (List (Nat × Instr × Nat)) := [gi_63_0, gi_63_1, gi_63_2]
theorem gv_63 : ∀ ch ∈ gi_63, g_okc cX5_rehearse ch = true := List.forall_mem_cons.mpr ⟨gv_63_0, List.forall_mem_cons.mpr ⟨gv_63_1, List.forall_mem_cons.mpr ⟨gv_63_2, fun _ h => absurd h List.not_mem_nil⟩⟩⟩
def gi_64_0 : List (Nat × Instr × Nat) := [(0, .aload_n 0, 1), (1, .iload_n 1, 1), (2, .invokevirtual 279, 3), (5, .ireturn, 1)]
set_option maxRecDepth 100000 in
theorem gv_64_0 : g_okc cX5_secondsFor gi_64_0 = true := by decide +kernel
def gi_64 : List (List (Nat × Instr × Nat)) := [gi_64_0]
theorem gv_64 : ∀ ch ∈ gi_64, g_okc cX5_secondsFor ch = true := List.forall_mem_cons.mpr ⟨gv_64_0, fun _ h => absurd h List.not_mem_nil⟩
def gi_65_0 : List (Nat × Instr × Nat) := [(0, .aload_n 0, 1), (1, .iload_n 1, 1), (2, .invokevirtual 279, 3), (5, .pop, 1), (6, .aload_n 0, 1), (7, .getfield 16, 3), (10, .getfield 283, 3), (13, .ireturn, 1)]
set_option maxRecDepth 100000 in
theorem gv_65_0 : g_okc cX5_stopsAt gi_65_0 = true := by decide +kernel
def gi_65 : List (List (Nat × Instr × Nat)) := [gi_65_0]
theorem gv_65 : ∀ ch ∈ gi_65, g_okc cX5_stopsAt ch = true := List.forall_mem_cons.mpr ⟨gv_65_0, fun _ h => absurd h List.not_mem_nil⟩
def gi_66_0 : List (Nat × Instr × Nat) := [(0, .iload_n 1, 1), (1, .iconst 1, 1), (2, .if_icmp .lt 9, 3), (5, .iload_n 1, 1), (6, .bipush 60, 2), (8, .if_icmp .le 14, 3), (11, .new 30, 3), (14, .dup, 1), (15, .ldc_w 286, 3), (18, .invokespecial 34, 3), (21, .athrow, 1), (22, .aload_n 0, 1), (23, .getfield 16, 3), (26, .aload_n 0, 1), (27, .getfield 10, 3), (30, .invokevirtual 288, 3)]
set_option maxRecDepth 100000 in
theorem gv_66_0 : g_okc cX5_wouldHurt gi_66_0 = true := by decide +kernel
def gi_66_1 : List (Nat × Instr × Nat) := [(33, .iconst 0, 1), (34, .istore_n 2, 1), (35, .iload_n 2, 1), (36, .iload_n 1, 1), (37, .if_icmp .ge 16, 3), (40, .aload_n 0, 1), (41, .getfield 16, 3), (44, .invokevirtual 220, 3), (47, .iinc 2 1, 3), (50, .goto (-15), 3), (53, .aload_n 0, 1), (54, .getfield 16, 3), (57, .getfield 270, 3), (60, .aload_n 0, 1), (61, .getfield 10, 3)]
set_option maxRecDepth 100000 in
theorem gv_66_1 : g_okc cX5_wouldHurt gi_66_1 = true := by decide +kernel
def gi_66_2 : List (Nat × Instr × Nat) := [(64, .getfield 270, 3), (67, .isub, 1), (68, .ireturn, 1)]
set_option maxRecDepth 100000 in
theorem gv_66_2 : g_okc cX5_wouldHurt gi_66_2 = true := by decide +kernel
def gi_66 : List (List (Nat × Instr × Nat)) := [gi_66_0, gi_66_1, gi_66_2]
theorem gv_66 : ∀ ch ∈ gi_66, g_okc cX5_wouldHurt ch = true := List.forall_mem_cons.mpr ⟨gv_66_0, List.forall_mem_cons.mpr ⟨gv_66_1, List.forall_mem_cons.mpr ⟨gv_66_2, fun _ h => absurd h List.not_mem_nil⟩⟩⟩
def gi_67_0 : List (Nat × Instr × Nat) := [(0, .iconst 0, 1), (1, .istore_n 2, 1), (2, .iconst 0, 1), (3, .istore_n 3, 1), (4, .iconst 0, 1), (5, .istore 4, 2), (7, .iload 4, 2), (9, .iload_n 1, 1), (10, .if_icmp .ge 360, 3), (13, .iconst 0, 1), (14, .istore 5, 2), (16, .iconst 0, 1), (17, .istore 6, 2), (19, .iconst 0, 1), (20, .istore 7, 2), (22, .iconst 0, 1), (23, .istore 8, 2), (25, .iload 8, 2), (27, .bipush 8, 2), (29, .if_icmp .ge 64, 3)]
set_option maxRecDepth 100000 in
theorem gv_67_0 : g_okc cL_isSo gi_67_0 = true := by decide +kernel
def gi_67_1 : List (Nat × Instr × Nat) := [(32, .aload_n 0, 1), (33, .iload 8, 2), (35, .iconst 3, 1), (36, .invokevirtual 40, 3), (39, .iload 4, 2), (41, .if_icmp .eq 6, 3), (44, .goto 43, 3), (47, .iload 5, 2), (49, .aload_n 0, 1), (50, .iload 8, 2), (52, .iconst 0, 1), (53, .invokevirtual 40, 3), (56, .iadd, 1), (57, .istore 5, 2), (59, .iload 6, 2), (61, .aload_n 0, 1), (62, .iload 8, 2)]
set_option maxRecDepth 100000 in
theorem gv_67_1 : g_okc cL_isSo gi_67_1 = true := by decide +kernel
def gi_67_2 : List (Nat × Instr × Nat) := [(64, .iconst 1, 1), (65, .invokevirtual 40, 3), (68, .invokestatic 49, 3), (71, .istore 6, 2), (73, .iload 7, 2), (75, .aload_n 0, 1), (76, .iload 8, 2), (78, .iconst 2, 1), (79, .invokevirtual 40, 3), (82, .invokestatic 49, 3), (85, .istore 7, 2), (87, .iinc 8 1, 3), (90, .goto (-65), 3), (93, .aload_n 0, 1), (94, .iload 4, 2)]
set_option maxRecDepth 100000 in
theorem gv_67_2 : g_okc cL_isSo gi_67_2 = true := by decide +kernel
def gi_67_3 : List (Nat × Instr × Nat) := [(96, .iconst 0, 1), (97, .invokevirtual 37, 3), (100, .iconst 1, 1), (101, .if_icmp .ne 7, 3), (104, .iconst 1, 1), (105, .goto 4, 3), (108, .iconst 0, 1), (109, .istore 8, 2), (111, .iload_n 2, 1), (112, .aload_n 0, 1), (113, .iload 4, 2), (115, .bipush 10, 2), (117, .invokevirtual 37, 3), (120, .iload 4, 2), (122, .ishl, 1), (123, .ior, 1), (124, .istore_n 2, 1), (125, .iload_n 3, 1), (126, .aload_n 0, 1), (127, .iload 4, 2)]
set_option maxRecDepth 100000 in
theorem gv_67_3 : g_okc cL_isSo gi_67_3 = true := by decide +kernel
def gi_67_4 : List (Nat × Instr × Nat) := [(129, .iconst 2, 1), (130, .invokevirtual 37, 3), (133, .iadd, 1), (134, .istore_n 3, 1), (135, .aload_n 0, 1), (136, .iload 4, 2), (138, .iconst 2, 1), (139, .invokevirtual 37, 3), (142, .ifCond .lt 105, 3), (145, .aload_n 0, 1), (146, .iload 4, 2), (148, .iconst 2, 1), (149, .invokevirtual 37, 3), (152, .bipush 120, 2), (154, .if_icmp .gt 93, 3), (157, .aload_n 0, 1), (158, .iload 4, 2)]
set_option maxRecDepth 100000 in
theorem gv_67_4 : g_okc cL_isSo gi_67_4 = true := by decide +kernel
def gi_67_5 : List (Nat × Instr × Nat) := [(160, .iconst 4, 1), (161, .invokevirtual 37, 3), (164, .iload 5, 2), (166, .if_icmp .ne 81, 3), (169, .iload 5, 2), (171, .aload_n 0, 1), (172, .iload 4, 2), (174, .iconst 1, 1), (175, .invokevirtual 37, 3), (178, .if_icmp .gt 69, 3), (181, .aload_n 0, 1), (182, .iload 4, 2), (184, .iconst 5, 1), (185, .invokevirtual 37, 3), (188, .iload 6, 2), (190, .if_icmp .ne 57, 3)]
set_option maxRecDepth 100000 in
theorem gv_67_5 : g_okc cL_isSo gi_67_5 = true := by decide +kernel
def gi_67_6 : List (Nat × Instr × Nat) := [(193, .aload_n 0, 1), (194, .iload 4, 2), (196, .bipush 6, 2), (198, .invokevirtual 37, 3), (201, .iload 7, 2), (203, .if_icmp .ne 44, 3), (206, .aload_n 0, 1), (207, .iload 4, 2), (209, .bipush 7, 2), (211, .invokevirtual 37, 3), (214, .iload 8, 2), (216, .ifCond .eq 7, 3), (219, .iconst 0, 1), (220, .goto 13, 3), (223, .iload 5, 2)]
set_option maxRecDepth 100000 in
theorem gv_67_6 : g_okc cL_isSo gi_67_6 = true := by decide +kernel
def gi_67_7 : List (Nat × Instr × Nat) := [(225, .aload_n 0, 1), (226, .iload 4, 2), (228, .iconst 3, 1), (229, .invokevirtual 37, 3), (232, .isub, 1), (233, .if_icmp .ne 14, 3), (236, .aload_n 0, 1), (237, .iload 4, 2), (239, .iload 4, 2), (241, .invokevirtual 107, 3), (244, .ifCond .eq 5, 3), (247, .iconst 0, 1), (248, .ireturn, 1), (249, .iconst 0, 1), (250, .istore 9, 2), (252, .iload 9, 2), (254, .iload 4, 2)]
set_option maxRecDepth 100000 in
theorem gv_67_7 : g_okc cL_isSo gi_67_7 = true := by decide +kernel
def gi_67_8 : List (Nat × Instr × Nat) := [(256, .if_icmp .ge 108, 3), (259, .iload 4, 2), (261, .iload 9, 2), (263, .isub, 1), (264, .iload 7, 2), (266, .aload_n 0, 1), (267, .iload 9, 2), (269, .bipush 6, 2), (271, .invokevirtual 37, 3), (274, .iadd, 1), (275, .if_icmp .gt 52, 3), (278, .aload_n 0, 1), (279, .iload 4, 2), (281, .iconst 2, 1), (282, .invokevirtual 37, 3), (285, .iload 6, 2), (287, .isub, 1)]
set_option maxRecDepth 100000 in
theorem gv_67_8 : g_okc cL_isSo gi_67_8 = true := by decide +kernel
def gi_67_9 : List (Nat × Instr × Nat) := [(288, .aload_n 0, 1), (289, .iload 9, 2), (291, .iconst 2, 1), (292, .invokevirtual 37, 3), (295, .if_icmp .gt 32, 3), (298, .aload_n 0, 1), (299, .iload 9, 2), (301, .iconst 2, 1), (302, .invokevirtual 37, 3), (305, .aload_n 0, 1), (306, .iload 9, 2), (308, .iconst 5, 1), (309, .invokevirtual 37, 3), (312, .isub, 1), (313, .aload_n 0, 1), (314, .iload 4, 2), (316, .iconst 2, 1), (317, .invokevirtual 37, 3)]
set_option maxRecDepth 100000 in
theorem gv_67_9 : g_okc cL_isSo gi_67_9 = true := by decide +kernel
def gi_67_10 : List (Nat × Instr × Nat) := [(320, .if_icmp .gt 7, 3), (323, .iconst 1, 1), (324, .goto 4, 3), (327, .iconst 0, 1), (328, .istore 10, 2), (330, .aload_n 0, 1), (331, .iload 4, 2), (333, .iload 9, 2), (335, .invokevirtual 107, 3), (338, .iload 10, 2), (340, .if_icmp .ne 16, 3), (343, .aload_n 0, 1), (344, .iload 9, 2), (346, .iload 4, 2), (348, .invokevirtual 107, 3), (351, .iload 10, 2)]
set_option maxRecDepth 100000 in
theorem gv_67_10 : g_okc cL_isSo gi_67_10 = true := by decide +kernel
def gi_67_11 : List (Nat × Instr × Nat) := [(353, .if_icmp .eq 5, 3), (356, .iconst 0, 1), (357, .ireturn, 1), (358, .iinc 9 1, 3), (361, .goto (-109), 3), (364, .iinc 4 1, 3), (367, .goto (-360), 3), (370, .aload_n 0, 1), (371, .iconst 5, 1), (372, .invokevirtual 34, 3), (375, .istore 4, 2), (377, .iconst 0, 1), (378, .istore 5, 2), (380, .iconst 0, 1), (381, .istore 6, 2), (383, .iload 4, 2)]
set_option maxRecDepth 100000 in
theorem gv_67_11 : g_okc cL_isSo gi_67_11 = true := by decide +kernel
def gi_67_12 : List (Nat × Instr × Nat) := [(385, .ifCond .lt 65, 3), (388, .iload 6, 2), (390, .aload_n 0, 1), (391, .iload 4, 2), (393, .invokestatic 57, 3), (396, .if_icmp .ge 54, 3), (399, .aload_n 0, 1), (400, .iload 4, 2), (402, .iload 6, 2), (404, .iconst 4, 1), (405, .invokevirtual 65, 3), (408, .istore 7, 2), (410, .iload 5, 2), (412, .iload 7, 2), (414, .ifCond .ne 7, 3)]
set_option maxRecDepth 100000 in
theorem gv_67_12 : g_okc cL_isSo gi_67_12 = true := by decide +kernel
def gi_67_13 : List (Nat × Instr × Nat) := [(417, .iconst 1, 1), (418, .goto 4, 3), (421, .iconst 0, 1), (422, .iadd, 1), (423, .istore 5, 2), (425, .iload 7, 2), (427, .ifCond .lt 15, 3), (430, .aload_n 0, 1), (431, .iload 4, 2), (433, .iload 6, 2), (435, .iconst 5, 1), (436, .invokevirtual 65, 3), (439, .ifCond .ge 5, 3), (442, .iconst 0, 1), (443, .ireturn, 1), (444, .iinc 6 1, 3), (447, .goto (-64), 3)]
set_option maxRecDepth 100000 in
theorem gv_67_13 : g_okc cL_isSo gi_67_13 = true := by decide +kernel
def gi_67_14 : List (Nat × Instr × Nat) := [(450, .aload_n 0, 1), (451, .bipush 15, 2), (453, .invokevirtual 34, 3), (456, .iload_n 2, 1), (457, .if_icmp .ne 74, 3), (460, .aload_n 0, 1), (461, .bipush 8, 2), (463, .invokevirtual 34, 3), (466, .iload 5, 2), (468, .if_icmp .ne 63, 3), (471, .iload 4, 2), (473, .ifCond .ge 19, 3), (476, .aload_n 0, 1), (477, .bipush 7, 2), (479, .invokevirtual 34, 3)]
set_option maxRecDepth 100000 in
theorem gv_67_14 : g_okc cL_isSo gi_67_14 = true := by decide +kernel
def gi_67_15 : List (Nat × Instr × Nat) := [(482, .aload_n 0, 1), (483, .bipush 6, 2), (485, .invokevirtual 34, 3), (488, .iadd, 1), (489, .ifCond .ne 42, 3), (492, .iload 4, 2), (494, .ifCond .lt 17, 3), (497, .iload 5, 2), (499, .ifCond .ne 12, 3), (502, .aload_n 0, 1), (503, .bipush 7, 2), (505, .invokevirtual 34, 3), (508, .ifCond .ne 23, 3), (511, .aload_n 0, 1)]
set_option maxRecDepth 100000 in
theorem gv_67_15 : g_okc cL_isSo gi_67_15 = true := by decide +kernel
def gi_67_16 : List (Nat × Instr × Nat) := [(512, .invokevirtual 122, 3), (515, .iload_n 1, 1), (516, .i2d, 1), (517, .dmul, 1), (518, .iload_n 3, 1), (519, .i2d, 1), (520, .dsub, 1), (521, .invokestatic 126, 3), (524, .ldc2_w 129, 3), (527, .dcmp .l, 1), (528, .ifCond .le 5, 3), (531, .iconst 0, 1), (532, .ireturn, 1), (533, .iconst 0, 1), (534, .istore 6, 2), (536, .iload 6, 2), (538, .iconst 4, 1), (539, .if_icmp .ge 71, 3), (542, .aload_n 0, 1), (543, .iload 6, 2)]
set_option maxRecDepth 100000 in
theorem gv_67_16 : g_okc cL_isSo gi_67_16 = true := by decide +kernel
def gi_67_17 : List (Nat × Instr × Nat) := [(545, .invokevirtual 131, 3), (548, .istore 7, 2), (550, .aload_n 0, 1), (551, .iload 6, 2), (553, .invokevirtual 134, 3), (556, .istore 8, 2), (558, .iload 7, 2), (560, .ifCond .eq 42, 3), (563, .iload 7, 2), (565, .sipush 200, 3), (568, .if_icmp .gt 34, 3), (571, .iload 7, 2), (573, .ifCond .lt 8, 3)]
set_option maxRecDepth 100000 in
theorem gv_67_17 : g_okc cL_isSo gi_67_17 = true := by decide +kernel
def gi_67_18 : List (Nat × Instr × Nat) := [(576, .iload 8, 2), (578, .ifCond .ge 24, 3), (581, .iload 8, 2), (583, .iload_n 1, 1), (584, .if_icmp .ge 18, 3), (587, .aload_n 0, 1), (588, .iload 6, 2), (590, .invokestatic 57, 3), (593, .ifCond .ne 11, 3), (596, .iload 7, 2), (598, .iconst 1, 1), (599, .if_icmp .eq 5, 3), (602, .iconst 0, 1), (603, .ireturn, 1), (604, .iinc 6 1, 3), (607, .goto (-71), 3)]
set_option maxRecDepth 100000 in
theorem gv_67_18 : g_okc cL_isSo gi_67_18 = true := by decide +kernel
def gi_67_19 : List (Nat × Instr × Nat) := [(610, .aload_n 0, 1), (611, .iconst 5, 1), (612, .invokevirtual 137, 3), (615, .ifCond .lt 18, 3), (618, .aload_n 0, 1), (619, .iconst 5, 1), (620, .invokevirtual 137, 3), (623, .iconst 5, 1), (624, .iload_n 1, 1), (625, .imul, 1), (626, .if_icmp .gt 7, 3), (629, .iconst 1, 1), (630, .goto 4, 3), (633, .iconst 0, 1), (634, .ireturn, 1)]
set_option maxRecDepth 100000 in
theorem gv_67_19 : g_okc cL_isSo gi_67_19 = true := by decide +kernel
def gi_67 : List (List (Nat × Instr × Nat)) := [gi_67_0, gi_67_1, gi_67_2, gi_67_3, gi_67_4, gi_67_5, gi_67_6, gi_67_7, gi_67_8, gi_67_9, gi_67_10, gi_67_11, gi_67_12, gi_67_13, gi_67_14, gi_67_15, gi_67_16, gi_67_17, gi_67_18, gi_67_19]
theorem gv_67 : ∀ ch ∈ gi_67, g_okc cL_isSo ch = true := List.forall_mem_cons.mpr ⟨gv_67_0, List.forall_mem_cons.mpr ⟨gv_67_1, List.forall_mem_cons.mpr ⟨gv_67_2, List.forall_mem_cons.mpr ⟨gv_67_3, List.forall_mem_cons.mpr ⟨gv_67_4, List.forall_mem_cons.mpr ⟨gv_67_5, List.forall_mem_cons.mpr ⟨gv_67_6, List.forall_mem_cons.mpr ⟨gv_67_7, List.forall_mem_cons.mpr ⟨gv_67_8, List.forall_mem_cons.mpr ⟨gv_67_9, List.forall_mem_cons.mpr ⟨gv_67_10, List.forall_mem_cons.mpr ⟨gv_67_11, List.forall_mem_cons.mpr ⟨gv_67_12, List.forall_mem_cons.mpr ⟨gv_67_13, List.forall_mem_cons.mpr ⟨gv_67_14, List.forall_mem_cons.mpr ⟨gv_67_15, List.forall_mem_cons.mpr ⟨gv_67_16, List.forall_mem_cons.mpr ⟨gv_67_17, List.forall_mem_cons.mpr ⟨gv_67_18, List.forall_mem_cons.mpr ⟨gv_67_19, fun _ h => absurd h List.not_mem_nil⟩⟩⟩⟩⟩⟩⟩⟩⟩⟩⟩⟩⟩⟩⟩⟩⟩⟩⟩⟩
def gi_68_0 : List (Nat × Instr × Nat) := [(0, .lload_n 1, 1), (1, .lstore 4, 2), (3, .aload_n 0, 1), (4, .getfield 10, 3), (7, .iload_n 3, 1), (8, .invokevirtual 98, 3), (11, .getfield 117, 3), (14, .istore 6, 2), (16, .iconst 0, 1), (17, .istore 7, 2), (19, .iload 7, 2), (21, .iload 6, 2), (23, .if_icmp .ge 44, 3), (26, .iconst 0, 1), (27, .istore 8, 2), (29, .iload 8, 2), (31, .bipush 6, 2)]
set_option maxRecDepth 100000 in
theorem gv_68_0 : g_okc cX5_digestOfMoves gi_68_0 = true := by decide +kernel
def gi_68_1 : List (Nat × Instr × Nat) := [(33, .if_icmp .ge 28, 3), (36, .lload 4, 2), (38, .ldc2_w 304, 3), (41, .lmul, 1), (42, .aload_n 0, 1), (43, .iload_n 3, 1), (44, .iload 7, 2), (46, .iload 8, 2), (48, .invokevirtual 325, 3), (51, .i2l, 1), (52, .ladd, 1), (53, .lstore 4, 2), (55, .iinc 8 1, 3), (58, .goto (-29), 3), (61, .iinc 7 1, 3)]
set_option maxRecDepth 100000 in
theorem gv_68_1 : g_okc cX5_digestOfMoves gi_68_1 = true := by decide +kernel
def gi_68_2 : List (Nat × Instr × Nat) := [(64, .goto (-45), 3), (67, .lload 4, 2), (69, .lreturn, 1)]
set_option maxRecDepth 100000 in
theorem gv_68_2 : g_okc cX5_digestOfMoves gi_68_2 = true := by decide +kernel
def gi_68 : List (List (Nat × Instr × Nat)) := [gi_68_0, gi_68_1, gi_68_2]
theorem gv_68 : ∀ ch ∈ gi_68, g_okc cX5_digestOfMoves ch = true := List.forall_mem_cons.mpr ⟨gv_68_0, List.forall_mem_cons.mpr ⟨gv_68_1, List.forall_mem_cons.mpr ⟨gv_68_2, fun _ h => absurd h List.not_mem_nil⟩⟩⟩
def gi_69_0 : List (Nat × Instr × Nat) := [(0, .iload_n 0, 1), (1, .iload_n 1, 1), (2, .ishr, 1), (3, .iconst 1, 1), (4, .iand, 1), (5, .iconst 1, 1), (6, .if_icmp .ne 7, 3), (9, .iconst 1, 1), (10, .goto 4, 3), (13, .iconst 0, 1), (14, .ireturn, 1)]
set_option maxRecDepth 100000 in
theorem gv_69_0 : g_okc cX5_isIn gi_69_0 = true := by decide +kernel
def gi_69 : List (List (Nat × Instr × Nat)) := [gi_69_0]
theorem gv_69 : ∀ ch ∈ gi_69, g_okc cX5_isIn ch = true := List.forall_mem_cons.mpr ⟨gv_69_0, fun _ h => absurd h List.not_mem_nil⟩
def gi_70_0 : List (Nat × Instr × Nat) := [(0, .iconst 0, 1), (1, .istore 4, 2), (3, .iload 4, 2), (5, .iload_n 1, 1), (6, .if_icmp .ge 56, 3), (9, .aload_n 0, 1), (10, .getfield 21, 3), (13, .iload 4, 2), (15, .aaload, 1), (16, .getfield 79, 3), (19, .aload_n 0, 1), (20, .getfield 21, 3), (23, .iload_n 1, 1), (24, .aaload, 1), (25, .getfield 79, 3), (28, .iadd, 1), (29, .istore 5, 2), (31, .iload_n 3, 1)]
set_option maxRecDepth 100000 in
theorem gv_70_0 : g_okc cX5_isBehindFormer gi_70_0 = true := by decide +kernel
def gi_70_1 : List (Nat × Instr × Nat) := [(32, .iload 4, 2), (34, .invokestatic 294, 3), (37, .ifCond .eq 19, 3), (40, .iload_n 2, 1), (41, .aload_n 0, 1), (42, .getfield 26, 3), (45, .iload 4, 2), (47, .iaload, 1), (48, .isub, 1), (49, .iload 5, 2), (51, .if_icmp .gt 5, 3), (54, .iconst 0, 1), (55, .ireturn, 1), (56, .iinc 4 1, 3), (59, .goto (-56), 3), (62, .iconst 1, 1), (63, .ireturn, 1)]
set_option maxRecDepth 100000 in
theorem gv_70_1 : g_okc cX5_isBehindFormer gi_70_1 = true := by decide +kernel
def gi_70 : List (List (Nat × Instr × Nat)) := [gi_70_0, gi_70_1]
theorem gv_70 : ∀ ch ∈ gi_70, g_okc cX5_isBehindFormer ch = true := List.forall_mem_cons.mpr ⟨gv_70_0, List.forall_mem_cons.mpr ⟨gv_70_1, fun _ h => absurd h List.not_mem_nil⟩⟩
def gi_71_0 : List (Nat × Instr × Nat) := [(0, .iconst 0, 1), (1, .istore_n 3, 1), (2, .iload_n 3, 1), (3, .aload_n 0, 1), (4, .getfield 10, 3), (7, .getfield 37, 3), (10, .if_icmp .ge 45, 3), (13, .aload_n 0, 1), (14, .getfield 21, 3), (17, .iload_n 1, 1), (18, .aaload, 1), (19, .getfield 73, 3), (22, .aload_n 0, 1), (23, .getfield 10, 3), (26, .getfield 46, 3), (29, .iload_n 3, 1), (30, .aaload, 1), (31, .getfield 56, 3)]
set_option maxRecDepth 100000 in
theorem gv_71_0 : g_okc cX5_smallestPlace gi_71_0 = true := by decide +kernel
def gi_71_1 : List (Nat × Instr × Nat) := [(34, .if_icmp .gt 15, 3), (37, .aload_n 0, 1), (38, .iload_n 1, 1), (39, .iload_n 3, 1), (40, .iload_n 2, 1), (41, .invokevirtual 346, 3), (44, .ifCond .eq 5, 3), (47, .iload_n 3, 1), (48, .ireturn, 1), (49, .iinc 3 1, 3), (52, .goto (-50), 3), (55, .iconst (-1), 1), (56, .ireturn, 1)]
set_option maxRecDepth 100000 in
theorem gv_71_1 : g_okc cX5_smallestPlace gi_71_1 = true := by decide +kernel
def gi_71 : List (List (Nat × Instr × Nat)) := [gi_71_0, gi_71_1]
theorem gv_71 : ∀ ch ∈ gi_71, g_okc cX5_smallestPlace ch = true := List.forall_mem_cons.mpr ⟨gv_71_0, List.forall_mem_cons.mpr ⟨gv_71_1, fun _ h => absurd h List.not_mem_nil⟩⟩
def gi_72_0 : List (Nat × Instr × Nat) := [(0, .iload_n 1, 1), (1, .aload_n 0, 1), (2, .getfield 68, 3), (5, .iushr, 1), (6, .ifCond .eq 14, 3), (9, .new 30, 3), (12, .dup, 1), (13, .ldc_w 292, 3), (16, .invokespecial 34, 3), (19, .athrow, 1), (20, .iconst 0, 1), (21, .istore_n 2, 1), (22, .iconst 0, 1), (23, .istore_n 3, 1), (24, .iload_n 3, 1), (25, .aload_n 0, 1), (26, .getfield 68, 3), (29, .if_icmp .ge 48, 3)]
set_option maxRecDepth 100000 in
theorem gv_72_0 : g_okc cX5_fits gi_72_0 = true := by decide +kernel
def gi_72_1 : List (Nat × Instr × Nat) := [(32, .iload_n 1, 1), (33, .iload_n 3, 1), (34, .invokestatic 294, 3), (37, .ifCond .eq 34, 3), (40, .aload_n 0, 1), (41, .iload_n 3, 1), (42, .iload_n 1, 1), (43, .invokevirtual 298, 3), (46, .istore 4, 2), (48, .iload 4, 2), (50, .iconst (-1), 1), (51, .if_icmp .ne 5, 3), (54, .iconst 0, 1), (55, .ireturn, 1), (56, .aload_n 0, 1), (57, .getfield 26, 3), (60, .iload_n 3, 1), (61, .iload 4, 2), (63, .iastore, 1)]
set_option maxRecDepth 100000 in
theorem gv_72_1 : g_okc cX5_fits gi_72_1 = true := by decide +kernel
def gi_72_2 : List (Nat × Instr × Nat) := [(64, .iload_n 2, 1), (65, .iconst 1, 1), (66, .iload 4, 2), (68, .ishl, 1), (69, .ior, 1), (70, .istore_n 2, 1), (71, .iinc 3 1, 3), (74, .goto (-50), 3), (77, .iload_n 2, 1), (78, .ireturn, 1)]
set_option maxRecDepth 100000 in
theorem gv_72_2 : g_okc cX5_fits gi_72_2 = true := by decide +kernel
def gi_72 : List (List (Nat × Instr × Nat)) := [gi_72_0, gi_72_1, gi_72_2]
theorem gv_72 : ∀ ch ∈ gi_72, g_okc cX5_fits ch = true := List.forall_mem_cons.mpr ⟨gv_72_0, List.forall_mem_cons.mpr ⟨gv_72_1, List.forall_mem_cons.mpr ⟨gv_72_2, fun _ h => absurd h List.not_mem_nil⟩⟩⟩
def gi_73_0 : List (Nat × Instr × Nat) := [(0, .ldc2_w 302, 3), (3, .lstore_n 1, 1), (4, .iconst 0, 1), (5, .istore_n 3, 1), (6, .iload_n 3, 1), (7, .bipush 16, 2), (9, .if_icmp .ge 22, 3), (12, .lload_n 1, 1), (13, .ldc2_w 304, 3), (16, .lmul, 1), (17, .aload_n 0, 1), (18, .iload_n 3, 1), (19, .invokevirtual 306, 3), (22, .i2l, 1), (23, .ladd, 1), (24, .lstore_n 1, 1), (25, .iinc 3 1, 3), (28, .goto (-22), 3), (31, .iconst 0, 1)]
set_option maxRecDepth 100000 in
theorem gv_73_0 : g_okc cX5_digest gi_73_0 = true := by decide +kernel
def gi_73_1 : List (Nat × Instr × Nat) := [(32, .istore_n 3, 1), (33, .iload_n 3, 1), (34, .aload_n 0, 1), (35, .getfield 10, 3), (38, .getfield 37, 3), (41, .if_icmp .ge 40, 3), (44, .iconst 0, 1), (45, .istore 4, 2), (47, .iload 4, 2), (49, .bipush 12, 2), (51, .if_icmp .ge 24, 3), (54, .lload_n 1, 1), (55, .ldc2_w 304, 3), (58, .lmul, 1), (59, .aload_n 0, 1), (60, .iload_n 3, 1), (61, .iload 4, 2), (63, .invokevirtual 309, 3)]
set_option maxRecDepth 100000 in
theorem gv_73_1 : g_okc cX5_digest gi_73_1 = true := by decide +kernel
def gi_73_2 : List (Nat × Instr × Nat) := [(66, .i2l, 1), (67, .ladd, 1), (68, .lstore_n 1, 1), (69, .iinc 4 1, 3), (72, .goto (-25), 3), (75, .iinc 3 1, 3), (78, .goto (-45), 3), (81, .iconst 0, 1), (82, .istore_n 3, 1), (83, .iload_n 3, 1), (84, .aload_n 0, 1), (85, .getfield 68, 3), (88, .if_icmp .ge 39, 3), (91, .iconst 0, 1), (92, .istore 4, 2), (94, .iload 4, 2)]
set_option maxRecDepth 100000 in
theorem gv_73_2 : g_okc cX5_digest gi_73_2 = true := by decide +kernel
def gi_73_3 : List (Nat × Instr × Nat) := [(96, .iconst 4, 1), (97, .if_icmp .ge 24, 3), (100, .lload_n 1, 1), (101, .ldc2_w 304, 3), (104, .lmul, 1), (105, .aload_n 0, 1), (106, .iload_n 3, 1), (107, .iload 4, 2), (109, .invokevirtual 312, 3), (112, .i2l, 1), (113, .ladd, 1), (114, .lstore_n 1, 1), (115, .iinc 4 1, 3), (118, .goto (-24), 3), (121, .iinc 3 1, 3), (124, .goto (-41), 3), (127, .iconst 0, 1)]
set_option maxRecDepth 100000 in
theorem gv_73_3 : g_okc cX5_digest gi_73_3 = true := by decide +kernel
def gi_73_4 : List (Nat × Instr × Nat) := [(128, .istore_n 3, 1), (129, .iload_n 3, 1), (130, .aload_n 0, 1), (131, .getfield 10, 3), (134, .getfield 84, 3), (137, .if_icmp .ge 44, 3), (140, .aload_n 0, 1), (141, .lload_n 1, 1), (142, .iload_n 3, 1), (143, .invokevirtual 315, 3), (146, .lstore_n 1, 1), (147, .lload_n 1, 1), (148, .ldc2_w 304, 3), (151, .lmul, 1), (152, .aload_n 0, 1), (153, .iload_n 3, 1), (154, .invokevirtual 279, 3), (157, .i2l, 1), (158, .ladd, 1), (159, .lstore_n 1, 1)]
set_option maxRecDepth 100000 in
theorem gv_73_4 : g_okc cX5_digest gi_73_4 = true := by decide +kernel
def gi_73_5 : List (Nat × Instr × Nat) := [(160, .lload_n 1, 1), (161, .ldc2_w 304, 3), (164, .lmul, 1), (165, .aload_n 0, 1), (166, .getfield 16, 3), (169, .getfield 283, 3), (172, .i2l, 1), (173, .ladd, 1), (174, .lstore_n 1, 1), (175, .iinc 3 1, 3), (178, .goto (-49), 3), (181, .lload_n 1, 1), (182, .ldc2_w 304, 3), (185, .lmul, 1), (186, .aload_n 0, 1), (187, .bipush 9, 2), (189, .invokevirtual 319, 3)]
set_option maxRecDepth 100000 in
theorem gv_73_5 : g_okc cX5_digest gi_73_5 = true := by decide +kernel
def gi_73_6 : List (Nat × Instr × Nat) := [(192, .i2l, 1), (193, .ladd, 1), (194, .lstore_n 1, 1), (195, .lload_n 1, 1), (196, .ldc2_w 304, 3), (199, .lmul, 1), (200, .aload_n 0, 1), (201, .iconst 1, 1), (202, .aload_n 0, 1), (203, .getfield 68, 3), (206, .ishl, 1), (207, .iconst 1, 1), (208, .isub, 1), (209, .invokevirtual 322, 3), (212, .i2l, 1), (213, .ladd, 1), (214, .lreturn, 1)]
set_option maxRecDepth 100000 in
theorem gv_73_6 : g_okc cX5_digest gi_73_6 = true := by decide +kernel
def gi_73 : List (List (Nat × Instr × Nat)) := [gi_73_0, gi_73_1, gi_73_2, gi_73_3, gi_73_4, gi_73_5, gi_73_6]
theorem gv_73 : ∀ ch ∈ gi_73, g_okc cX5_digest ch = true := List.forall_mem_cons.mpr ⟨gv_73_0, List.forall_mem_cons.mpr ⟨gv_73_1, List.forall_mem_cons.mpr ⟨gv_73_2, List.forall_mem_cons.mpr ⟨gv_73_3, List.forall_mem_cons.mpr ⟨gv_73_4, List.forall_mem_cons.mpr ⟨gv_73_5, List.forall_mem_cons.mpr ⟨gv_73_6, fun _ h => absurd h List.not_mem_nil⟩⟩⟩⟩⟩⟩⟩
def gi_74_0 : List (Nat × Instr × Nat) := [(0, .new 9, 3), (3, .dup, 1), (4, .invokespecial 11, 3), (7, .astore_n 1, 1), (8, .iconst 2, 1), (9, .aload_n 0, 1), (10, .iconst 0, 1), (11, .invokestatic 12, 3), (14, .bipush 7, 2), (16, .invokestatic 18, 3), (19, .iadd, 1), (20, .istore_n 2, 1), (21, .iconst 0, 1), (22, .istore_n 3, 1), (23, .iload_n 3, 1), (24, .iload_n 2, 1), (25, .if_icmp .ge 54, 3), (28, .aload_n 1, 1), (29, .aload_n 0, 1), (30, .iconst 1, 1), (31, .invokestatic 12, 3)]
set_option maxRecDepth 100000 in
theorem gv_74_0 : g_okc cL_law gi_74_0 = true := by decide +kernel
def gi_74_1 : List (Nat × Instr × Nat) := [(34, .iload_n 3, 1), (35, .ishr, 1), (36, .iconst 3, 1), (37, .invokestatic 18, 3), (40, .ifCond .ne 7, 3), (43, .iconst 1, 1), (44, .goto 4, 3), (47, .iconst 0, 1), (48, .bipush 30, 2), (50, .aload_n 0, 1), (51, .iconst 2, 1), (52, .invokestatic 12, 3), (55, .iload_n 3, 1), (56, .ishr, 1), (57, .sipush 200, 3), (60, .invokestatic 18, 3), (63, .iadd, 1)]
set_option maxRecDepth 100000 in
theorem gv_74_1 : g_okc cL_law gi_74_1 = true := by decide +kernel
def gi_74_2 : List (Nat × Instr × Nat) := [(64, .invokevirtual 22, 3), (67, .iload_n 3, 1), (68, .if_icmp .eq 5, 3), (71, .iconst 0, 1), (72, .ireturn, 1), (73, .iinc 3 1, 3), (76, .goto (-53), 3), (79, .iconst 0, 1), (80, .istore_n 3, 1), (81, .iload_n 3, 1), (82, .bipush 8, 2), (84, .if_icmp .ge 65, 3), (87, .aload_n 1, 1), (88, .iconst 1, 1), (89, .aload_n 0, 1), (90, .iconst 3, 1), (91, .iload_n 3, 1), (92, .iconst 4, 1), (93, .irem, 1), (94, .iadd, 1), (95, .invokestatic 12, 3)]
set_option maxRecDepth 100000 in
theorem gv_74_2 : g_okc cL_law gi_74_2 = true := by decide +kernel
def gi_74_3 : List (Nat × Instr × Nat) := [(98, .iload_n 3, 1), (99, .ishr, 1), (100, .bipush 60, 2), (102, .invokestatic 18, 3), (105, .iadd, 1), (106, .aload_n 0, 1), (107, .iconst 4, 1), (108, .iload_n 3, 1), (109, .iconst 3, 1), (110, .irem, 1), (111, .iadd, 1), (112, .invokestatic 12, 3), (115, .iload_n 3, 1), (116, .ishr, 1), (117, .bipush 61, 2), (119, .invokestatic 18, 3), (122, .aload_n 0, 1), (123, .bipush 6, 2), (125, .invokestatic 12, 3)]
set_option maxRecDepth 100000 in
theorem gv_74_3 : g_okc cL_law gi_74_3 = true := by decide +kernel
def gi_74_4 : List (Nat × Instr × Nat) := [(128, .iload_n 3, 1), (129, .ishr, 1), (130, .iconst 3, 1), (131, .invokestatic 18, 3), (134, .invokevirtual 26, 3), (137, .iload_n 3, 1), (138, .if_icmp .eq 5, 3), (141, .iconst 0, 1), (142, .ireturn, 1), (143, .iinc 3 1, 3), (146, .goto (-65), 3), (149, .iconst 0, 1), (150, .istore_n 3, 1), (151, .iload_n 3, 1), (152, .iconst 4, 1), (153, .if_icmp .ge 31, 3), (156, .aload_n 1, 1), (157, .iload_n 3, 1), (158, .iconst 2, 1), (159, .if_icmp .ge 9, 3)]
set_option maxRecDepth 100000 in
theorem gv_74_4 : g_okc cL_law gi_74_4 = true := by decide +kernel
def gi_74_5 : List (Nat × Instr × Nat) := [(162, .iload_n 3, 1), (163, .iconst 1, 1), (164, .iadd, 1), (165, .goto 4, 3), (168, .iconst (-1), 1), (169, .invokevirtual 30, 3), (172, .iload_n 3, 1), (173, .if_icmp .eq 5, 3), (176, .iconst 0, 1), (177, .ireturn, 1), (178, .iinc 3 1, 3), (181, .goto (-30), 3), (184, .iconst 0, 1), (185, .istore_n 3, 1), (186, .iconst 0, 1), (187, .istore 4, 2), (189, .iload 4, 2), (191, .bipush 80, 2)]
set_option maxRecDepth 100000 in
theorem gv_74_5 : g_okc cL_law gi_74_5 = true := by decide +kernel
def gi_74_6 : List (Nat × Instr × Nat) := [(193, .if_icmp .ge 893, 3), (196, .aload_n 0, 1), (197, .bipush 7, 2), (199, .iload 4, 2), (201, .bipush 23, 2), (203, .irem, 1), (204, .iadd, 1), (205, .invokestatic 12, 3), (208, .iload 4, 2), (210, .bipush 23, 2), (212, .idiv, 1), (213, .iconst 4, 1), (214, .imul, 1), (215, .ishr, 1), (216, .istore 5, 2), (218, .iload 5, 2), (220, .iconst 4, 1), (221, .ishr, 1), (222, .iload_n 2, 1), (223, .invokestatic 18, 3)]
set_option maxRecDepth 100000 in
theorem gv_74_6 : g_okc cL_law gi_74_6 = true := by decide +kernel
def gi_74_7 : List (Nat × Instr × Nat) := [(226, .istore 6, 2), (228, .iload 5, 2), (230, .iconst 3, 1), (231, .ishr, 1), (232, .bipush 8, 2), (234, .invokestatic 18, 3), (237, .istore 7, 2), (239, .iload 5, 2), (241, .iconst 5, 1), (242, .ishr, 1), (243, .iconst 4, 1), (244, .invokestatic 18, 3), (247, .istore 8, 2), (249, .aload_n 1, 1), (250, .iconst 5, 1), (251, .invokevirtual 34, 3), (254, .ifCond .lt 7, 3)]
set_option maxRecDepth 100000 in
theorem gv_74_7 : g_okc cL_law gi_74_7 = true := by decide +kernel
def gi_74_8 : List (Nat × Instr × Nat) := [(257, .iconst 1, 1), (258, .goto 4, 3), (261, .iconst 0, 1), (262, .istore 9, 2), (264, .iload 9, 2), (266, .ifCond .ne 17, 3), (269, .aload_n 1, 1), (270, .iload 6, 2), (272, .iconst 2, 1), (273, .invokevirtual 37, 3), (276, .ifCond .ne 7, 3), (279, .iconst 1, 1), (280, .goto 4, 3), (283, .iconst 0, 1), (284, .istore 10, 2), (286, .aload_n 1, 1), (287, .iload 7, 2)]
set_option maxRecDepth 100000 in
theorem gv_74_8 : g_okc cL_law gi_74_8 = true := by decide +kernel
def gi_74_9 : List (Nat × Instr × Nat) := [(289, .iconst 3, 1), (290, .invokevirtual 40, 3), (293, .istore 11, 2), (295, .iload 5, 2), (297, .bipush 18, 2), (299, .invokestatic 18, 3), (302, .tableswitch 720 0 14 #[74, 74, 74, 143, 187, 255, 255, 255, 368, 386, 452, 452, 520, 595, 643], 74)]
set_option maxRecDepth 100000 in
theorem gv_74_9 : g_okc cL_law gi_74_9 = true := by decide +kernel
def gi_74_10 : List (Nat × Instr × Nat) := []
set_option maxRecDepth 100000 in
theorem gv_74_10 : g_okc cL_law gi_74_10 = true := by decide +kernel
def gi_74_11 : List (Nat × Instr × Nat) := [(376, .aload_n 1, 1), (377, .iload 6, 2), (379, .iconst 4, 1), (380, .invokevirtual 37, 3), (383, .aload_n 1, 1)]
set_option maxRecDepth 100000 in
theorem gv_74_11 : g_okc cL_law gi_74_11 = true := by decide +kernel
def gi_74_12 : List (Nat × Instr × Nat) := [(384, .iload 7, 2), (386, .iconst 0, 1), (387, .invokevirtual 40, 3), (390, .iadd, 1), (391, .istore 12, 2), (393, .iload 10, 2), (395, .ifCond .eq 675, 3), (398, .iload 11, 2), (400, .ifCond .ge 670, 3), (403, .iload 12, 2), (405, .aload_n 1, 1), (406, .iload 6, 2), (408, .iconst 1, 1), (409, .invokevirtual 37, 3), (412, .if_icmp .le 6, 3), (415, .goto 655, 3)]
set_option maxRecDepth 100000 in
theorem gv_74_12 : g_okc cL_law gi_74_12 = true := by decide +kernel
def gi_74_13 : List (Nat × Instr × Nat) := [(418, .aload_n 1, 1), (419, .iload 7, 2), (421, .iload 6, 2), (423, .invokevirtual 43, 3), (426, .iload 12, 2), (428, .if_icmp .ne 15, 3), (431, .aload_n 1, 1), (432, .iload 7, 2), (434, .iconst 3, 1), (435, .invokevirtual 40, 3), (438, .iload 6, 2), (440, .if_icmp .eq 630, 3), (443, .iconst 0, 1), (444, .ireturn, 1), (445, .iload 9, 2), (447, .ifCond .ne 623, 3)]
set_option maxRecDepth 100000 in
theorem gv_74_13 : g_okc cL_law gi_74_13 = true := by decide +kernel
def gi_74_14 : List (Nat × Instr × Nat) := [(450, .iload 11, 2), (452, .ifCond .lt 618, 3), (455, .aload_n 1, 1), (456, .iload 11, 2), (458, .iconst 2, 1), (459, .invokevirtual 37, 3), (462, .ifCond .ne 608, 3), (465, .aload_n 1, 1), (466, .iload 7, 2), (468, .invokevirtual 46, 3), (471, .iload 11, 2), (473, .if_icmp .ne 14, 3), (476, .aload_n 1, 1), (477, .iload 7, 2), (479, .iconst 3, 1)]
set_option maxRecDepth 100000 in
theorem gv_74_14 : g_okc cL_law gi_74_14 = true := by decide +kernel
def gi_74_15 : List (Nat × Instr × Nat) := [(480, .invokevirtual 40, 3), (483, .iconst (-1), 1), (484, .if_icmp .eq 586, 3), (487, .iconst 0, 1), (488, .ireturn, 1), (489, .iload 10, 2), (491, .ifCond .eq 579, 3), (494, .aload_n 1, 1), (495, .iload 6, 2), (497, .iconst 0, 1), (498, .invokevirtual 37, 3), (501, .iconst 1, 1), (502, .if_icmp .ne 6, 3), (505, .goto 565, 3), (508, .iconst 0, 1), (509, .aload_n 1, 1), (510, .iload 6, 2)]
set_option maxRecDepth 100000 in
theorem gv_74_15 : g_okc cL_law gi_74_15 = true := by decide +kernel
def gi_74_16 : List (Nat × Instr × Nat) := [(512, .iconst 4, 1), (513, .invokevirtual 37, 3), (516, .iload 5, 2), (518, .iconst 2, 1), (519, .ishr, 1), (520, .bipush 80, 2), (522, .invokestatic 18, 3), (525, .iadd, 1), (526, .bipush 40, 2), (528, .isub, 1), (529, .invokestatic 49, 3), (532, .istore 12, 2), (534, .aload_n 1, 1), (535, .iload 6, 2), (537, .iload 12, 2), (539, .invokevirtual 54, 3), (542, .aload_n 1, 1), (543, .iload 6, 2)]
set_option maxRecDepth 100000 in
theorem gv_74_16 : g_okc cL_law gi_74_16 = true := by decide +kernel
def gi_74_17 : List (Nat × Instr × Nat) := [(545, .iconst 4, 1), (546, .invokevirtual 37, 3), (549, .iload 12, 2), (551, .isub, 1), (552, .if_icmp .eq 518, 3), (555, .iconst 0, 1), (556, .ireturn, 1), (557, .aload_n 1, 1), (558, .iload 8, 2), (560, .invokestatic 57, 3), (563, .istore 12, 2), (565, .aload_n 1, 1), (566, .iload 8, 2), (568, .iload 6, 2), (570, .iload 5, 2), (572, .iconst 2, 1), (573, .ishr, 1), (574, .bipush 121, 2)]
set_option maxRecDepth 100000 in
theorem gv_74_17 : g_okc cL_law gi_74_17 = true := by decide +kernel
def gi_74_18 : List (Nat × Instr × Nat) := [(576, .invokestatic 18, 3), (579, .iconst 1, 1), (580, .iload 5, 2), (582, .iconst 3, 1), (583, .ishr, 1), (584, .bipush 6, 2), (586, .invokestatic 18, 3), (589, .iadd, 1), (590, .iload 5, 2), (592, .bipush 6, 2), (594, .ishr, 1), (595, .bipush 8, 2), (597, .invokestatic 18, 3), (600, .invokestatic 61, 3), (603, .istore 13, 2), (605, .iload 13, 2), (607, .ifCond .lt 50, 3)]
set_option maxRecDepth 100000 in
theorem gv_74_18 : g_okc cL_law gi_74_18 = true := by decide +kernel
def gi_74_19 : List (Nat × Instr × Nat) := [(610, .iload 13, 2), (612, .iload 12, 2), (614, .if_icmp .ne 54, 3), (617, .aload_n 1, 1), (618, .iload 8, 2), (620, .iload 13, 2), (622, .iconst 0, 1), (623, .invokevirtual 65, 3), (626, .iload 6, 2), (628, .if_icmp .ne 40, 3), (631, .aload_n 1, 1), (632, .iload 8, 2), (634, .iload 13, 2), (636, .iconst 4, 1), (637, .invokevirtual 65, 3)]
set_option maxRecDepth 100000 in
theorem gv_74_19 : g_okc cL_law gi_74_19 = true := by decide +kernel
def gi_74_20 : List (Nat × Instr × Nat) := [(640, .iconst (-1), 1), (641, .if_icmp .ne 27, 3), (644, .aload_n 1, 1), (645, .iconst 5, 1), (646, .invokevirtual 34, 3), (649, .iload 8, 2), (651, .if_icmp .ne 419, 3), (654, .goto 14, 3), (657, .aload_n 1, 1), (658, .iload 8, 2), (660, .invokestatic 57, 3), (663, .iload 12, 2), (665, .if_icmp .eq 405, 3), (668, .iconst 0, 1), (669, .ireturn, 1), (670, .aload_n 1, 1), (671, .iload 5, 2)]
set_option maxRecDepth 100000 in
theorem gv_74_20 : g_okc cL_law gi_74_20 = true := by decide +kernel
def gi_74_21 : List (Nat × Instr × Nat) := [(673, .iconst 4, 1), (674, .ishr, 1), (675, .bipush 6, 2), (677, .invokestatic 18, 3), (680, .invokevirtual 68, 3), (683, .ifCond .ge 387, 3), (686, .iconst 0, 1), (687, .ireturn, 1), (688, .aload_n 1, 1), (689, .iload 6, 2), (691, .bipush 8, 2), (693, .invokevirtual 37, 3), (696, .iconst 1, 1), (697, .if_icmp .ne 7, 3), (700, .iconst 1, 1), (701, .goto 4, 3)]
set_option maxRecDepth 100000 in
theorem gv_74_21 : g_okc cL_law gi_74_21 = true := by decide +kernel
def gi_74_22 : List (Nat × Instr × Nat) := [(704, .iconst 0, 1), (705, .istore 12, 2), (707, .aload_n 1, 1), (708, .iload 6, 2), (710, .iload 5, 2), (712, .bipush 6, 2), (714, .ishr, 1), (715, .iconst 2, 1), (716, .invokestatic 18, 3), (719, .ifCond .ne 7, 3), (722, .iconst 1, 1), (723, .goto 4, 3), (726, .iconst 0, 1), (727, .iload 5, 2), (729, .bipush 7, 2), (731, .ishr, 1), (732, .iconst 3, 1), (733, .invokestatic 18, 3)]
set_option maxRecDepth 100000 in
theorem gv_74_22 : g_okc cL_law gi_74_22 = true := by decide +kernel
def gi_74_23 : List (Nat × Instr × Nat) := [(736, .ifCond .le 7, 3), (739, .iconst 1, 1), (740, .goto 4, 3), (743, .iconst 0, 1), (744, .invokevirtual 71, 3), (747, .iload 12, 2), (749, .if_icmp .eq 321, 3), (752, .iconst 0, 1), (753, .ireturn, 1), (754, .iload 9, 2), (756, .ifCond .eq 6, 3), (759, .goto 311, 3), (762, .aload_n 1, 1), (763, .iload 8, 2), (765, .invokevirtual 74, 3)]
set_option maxRecDepth 100000 in
theorem gv_74_23 : g_okc cL_law gi_74_23 = true := by decide +kernel
def gi_74_24 : List (Nat × Instr × Nat) := [(768, .aload_n 1, 1), (769, .iload 8, 2), (771, .invokestatic 57, 3), (774, .if_icmp .ne 46, 3), (777, .aload_n 1, 1), (778, .iconst 5, 1), (779, .invokevirtual 34, 3), (782, .iload 8, 2), (784, .if_icmp .ne 36, 3), (787, .aload_n 1, 1), (788, .bipush 7, 2), (790, .invokevirtual 34, 3), (793, .ifCond .ne 27, 3), (796, .aload_n 1, 1), (797, .bipush 8, 2), (799, .invokevirtual 34, 3)]
set_option maxRecDepth 100000 in
theorem gv_74_24 : g_okc cL_law gi_74_24 = true := by decide +kernel
def gi_74_25 : List (Nat × Instr × Nat) := [(802, .aload_n 1, 1), (803, .iload 8, 2), (805, .invokestatic 57, 3), (808, .if_icmp .ne 12, 3), (811, .aload_n 1, 1), (812, .bipush 6, 2), (814, .invokevirtual 34, 3), (817, .ifCond .eq 253, 3), (820, .iconst 0, 1), (821, .ireturn, 1), (822, .iload 9, 2), (824, .ifCond .ne 6, 3), (827, .goto 243, 3), (830, .aload_n 1, 1), (831, .bipush 6, 2)]
set_option maxRecDepth 100000 in
theorem gv_74_25 : g_okc cL_law gi_74_25 = true := by decide +kernel
def gi_74_26 : List (Nat × Instr × Nat) := [(833, .invokevirtual 34, 3), (836, .iconst 1, 1), (837, .if_icmp .ne 7, 3), (840, .iconst 1, 1), (841, .goto 4, 3), (844, .iconst 0, 1), (845, .istore 12, 2), (847, .iload 5, 2), (849, .iconst 5, 1), (850, .ishr, 1), (851, .iconst 2, 1), (852, .invokestatic 18, 3), (855, .ifCond .ne 7, 3), (858, .iconst 1, 1), (859, .goto 4, 3), (862, .iconst 0, 1), (863, .istore 13, 2)]
set_option maxRecDepth 100000 in
theorem gv_74_26 : g_okc cL_law gi_74_26 = true := by decide +kernel
def gi_74_27 : List (Nat × Instr × Nat) := [(865, .aload_n 1, 1), (866, .iload 13, 2), (868, .invokevirtual 77, 3), (871, .iload 12, 2), (873, .if_icmp .ne 22, 3), (876, .aload_n 1, 1), (877, .bipush 6, 2), (879, .invokevirtual 34, 3), (882, .iload 13, 2), (884, .ifCond .eq 7, 3), (887, .iconst 1, 1), (888, .goto 4, 3), (891, .iconst 0, 1), (892, .if_icmp .eq 178, 3), (895, .iconst 0, 1)]
set_option maxRecDepth 100000 in
theorem gv_74_27 : g_okc cL_law gi_74_27 = true := by decide +kernel
def gi_74_28 : List (Nat × Instr × Nat) := [(896, .ireturn, 1), (897, .iload 9, 2), (899, .ifCond .eq 171, 3), (902, .iload 5, 2), (904, .bipush 6, 2), (906, .ishr, 1), (907, .iconst 2, 1), (908, .invokestatic 18, 3), (911, .ifCond .ne 6, 3), (914, .goto 156, 3), (917, .aload_n 1, 1), (918, .bipush 8, 2), (920, .invokevirtual 34, 3), (923, .istore 12, 2), (925, .aload_n 1, 1), (926, .invokevirtual 81, 3)]
set_option maxRecDepth 100000 in
theorem gv_74_28 : g_okc cL_law gi_74_28 = true := by decide +kernel
def gi_74_29 : List (Nat × Instr × Nat) := [(929, .iload 12, 2), (931, .if_icmp .ne 12, 3), (934, .aload_n 1, 1), (935, .iconst 5, 1), (936, .invokevirtual 34, 3), (939, .iconst (-1), 1), (940, .if_icmp .eq 130, 3), (943, .iconst 0, 1), (944, .ireturn, 1), (945, .aload_n 1, 1), (946, .iload 6, 2), (948, .bipush 10, 2), (950, .invokevirtual 37, 3), (953, .iconst 1, 1), (954, .if_icmp .ne 7, 3), (957, .iconst 1, 1), (958, .goto 4, 3)]
set_option maxRecDepth 100000 in
theorem gv_74_29 : g_okc cL_law gi_74_29 = true := by decide +kernel
def gi_74_30 : List (Nat × Instr × Nat) := [(961, .iconst 0, 1), (962, .istore 12, 2), (964, .aload_n 1, 1), (965, .iload 6, 2), (967, .iload 5, 2), (969, .bipush 6, 2), (971, .ishr, 1), (972, .iconst 2, 1), (973, .invokestatic 18, 3), (976, .ifCond .ne 7, 3), (979, .iconst 1, 1), (980, .goto 4, 3), (983, .iconst 0, 1), (984, .invokevirtual 85, 3), (987, .iload 12, 2), (989, .if_icmp .ne 31, 3)]
set_option maxRecDepth 100000 in
theorem gv_74_30 : g_okc cL_law gi_74_30 = true := by decide +kernel
def gi_74_31 : List (Nat × Instr × Nat) := [(992, .aload_n 1, 1), (993, .iload 6, 2), (995, .bipush 10, 2), (997, .invokevirtual 37, 3), (1000, .iload 5, 2), (1002, .bipush 6, 2), (1004, .ishr, 1), (1005, .iconst 2, 1), (1006, .invokestatic 18, 3), (1009, .ifCond .ne 7, 3), (1012, .iconst 1, 1), (1013, .goto 4, 3), (1016, .iconst 0, 1), (1017, .if_icmp .eq 53, 3), (1020, .iconst 0, 1), (1021, .ireturn, 1), (1022, .iconst 1, 1), (1023, .iload 5, 2)]
set_option maxRecDepth 100000 in
theorem gv_74_31 : g_okc cL_law gi_74_31 = true := by decide +kernel
def gi_74_32 : List (Nat × Instr × Nat) := [(1025, .iconst 3, 1), (1026, .ishr, 1), (1027, .bipush 9, 2), (1029, .invokestatic 18, 3), (1032, .iadd, 1), (1033, .istore 12, 2), (1035, .iconst 0, 1), (1036, .istore 13, 2), (1038, .iload 13, 2), (1040, .iload 12, 2), (1042, .if_icmp .ge 28, 3), (1045, .aload_n 1, 1), (1046, .iload_n 2, 1), (1047, .invokestatic 89, 3), (1050, .istore 14, 2), (1052, .iload 14, 2), (1054, .ifCond .ge 5, 3)]
set_option maxRecDepth 100000 in
theorem gv_74_32 : g_okc cL_law gi_74_32 = true := by decide +kernel
def gi_74_33 : List (Nat × Instr × Nat) := [(1057, .iconst 0, 1), (1058, .ireturn, 1), (1059, .iload_n 3, 1), (1060, .iload 14, 2), (1062, .iadd, 1), (1063, .istore_n 3, 1), (1064, .iinc 13 1, 3), (1067, .goto (-29), 3), (1070, .aload_n 1, 1), (1071, .iload_n 2, 1), (1072, .invokestatic 92, 3), (1075, .ifCond .ne 5, 3), (1078, .iconst 0, 1), (1079, .ireturn, 1), (1080, .iinc 4 1, 3), (1083, .goto (-894), 3), (1086, .aload_n 1, 1), (1087, .invokevirtual 96, 3)]
set_option maxRecDepth 100000 in
theorem gv_74_33 : g_okc cL_law gi_74_33 = true := by decide +kernel
def gi_74_34 : List (Nat × Instr × Nat) := [(1090, .lstore 4, 2), (1092, .aload_n 1, 1), (1093, .iload_n 2, 1), (1094, .invokestatic 92, 3), (1097, .ifCond .eq 21, 3), (1100, .iload_n 3, 1), (1101, .ifCond .lt 17, 3), (1104, .aload_n 1, 1), (1105, .invokevirtual 96, 3), (1108, .lload 4, 2), (1110, .lcmp, 1), (1111, .ifCond .ne 7, 3), (1114, .iconst 1, 1), (1115, .goto 4, 3), (1118, .iconst 0, 1), (1119, .ireturn, 1)]
set_option maxRecDepth 100000 in
theorem gv_74_34 : g_okc cL_law gi_74_34 = true := by decide +kernel
def gi_74 : List (List (Nat × Instr × Nat)) := [gi_74_0, gi_74_1, gi_74_2, gi_74_3, gi_74_4, gi_74_5, gi_74_6, gi_74_7, gi_74_8, gi_74_9, gi_74_10, gi_74_11, gi_74_12, gi_74_13, gi_74_14, gi_74_15, gi_74_16, gi_74_17, gi_74_18, gi_74_19, gi_74_20, gi_74_21, gi_74_22, gi_74_23, gi_74_24, gi_74_25, gi_74_26, gi_74_27, gi_74_28, gi_74_29, gi_74_30, gi_74_31, gi_74_32, gi_74_33, gi_74_34]
theorem gv_74 : ∀ ch ∈ gi_74, g_okc cL_law ch = true := List.forall_mem_cons.mpr ⟨gv_74_0, List.forall_mem_cons.mpr ⟨gv_74_1, List.forall_mem_cons.mpr ⟨gv_74_2, List.forall_mem_cons.mpr ⟨gv_74_3, List.forall_mem_cons.mpr ⟨gv_74_4, List.forall_mem_cons.mpr ⟨gv_74_5, List.forall_mem_cons.mpr ⟨gv_74_6, List.forall_mem_cons.mpr ⟨gv_74_7, List.forall_mem_cons.mpr ⟨gv_74_8, List.forall_mem_cons.mpr ⟨gv_74_9, List.forall_mem_cons.mpr ⟨gv_74_10, List.forall_mem_cons.mpr ⟨gv_74_11, List.forall_mem_cons.mpr ⟨gv_74_12, List.forall_mem_cons.mpr ⟨gv_74_13, List.forall_mem_cons.mpr ⟨gv_74_14, List.forall_mem_cons.mpr ⟨gv_74_15, List.forall_mem_cons.mpr ⟨gv_74_16, List.forall_mem_cons.mpr ⟨gv_74_17, List.forall_mem_cons.mpr ⟨gv_74_18, List.forall_mem_cons.mpr ⟨gv_74_19, List.forall_mem_cons.mpr ⟨gv_74_20, List.forall_mem_cons.mpr ⟨gv_74_21, List.forall_mem_cons.mpr ⟨gv_74_22, List.forall_mem_cons.mpr ⟨gv_74_23, List.forall_mem_cons.mpr ⟨gv_74_24, List.forall_mem_cons.mpr ⟨gv_74_25, List.forall_mem_cons.mpr ⟨gv_74_26, List.forall_mem_cons.mpr ⟨gv_74_27, List.forall_mem_cons.mpr ⟨gv_74_28, List.forall_mem_cons.mpr ⟨gv_74_29, List.forall_mem_cons.mpr ⟨gv_74_30, List.forall_mem_cons.mpr ⟨gv_74_31, List.forall_mem_cons.mpr ⟨gv_74_32, List.forall_mem_cons.mpr ⟨gv_74_33, List.forall_mem_cons.mpr ⟨gv_74_34, fun _ h => absurd h List.not_mem_nil⟩⟩⟩⟩⟩⟩⟩⟩⟩⟩⟩⟩⟩⟩⟩⟩⟩⟩⟩⟩⟩⟩⟩⟩⟩⟩⟩⟩⟩⟩⟩⟩⟩⟩⟩
def gm_CI : List (ByteArray × List (List (Nat × Instr × Nat))) := [(cX0_init, gi_0), (cX2_init, gi_1), (cX1_init, gi_2), (cX4_init, gi_3), (cX3_init, gi_4), (cX5_init, gi_5), (cL_cell, gi_6), (cL_below, gi_7), (cX5_bar, gi_8), (cX5_piece, gi_9), (cX5_cue, gi_10), (cX4_cueAt, gi_11), (cX1_openMoves, gi_12), (cX4_openMoves, gi_13), (cX4_brokenBrakes, gi_14), (cX5_many, gi_15), (cX4_barAt, gi_16), (cX0_difference, gi_17), (cX5_ofBar, gi_18), (cX5_pieceAt, gi_19), (cX5_ofPiece, gi_20), (cX5_refuseUnlessAtRest, gi_21), (cX5_weigh, gi_22), (cX5_hang, gi_23), (cX5_take, gi_24), (cX5_counter, gi_25), (cX1_moveAt, gi_26), (cX5_ofMove, gi_27), (cL_moves, gi_28), (cX1_hasMoveOf, gi_29), (cX5_move, gi_30), (cL_move, gi_31), (cX5_crew, gi_32), (cX5_below, gi_33), (cX1_openAll, gi_34), (cX4_begin, gi_35), (cX5_go, gi_36), (cX5_refuseUnlessRunning, gi_37), (cX5_stop, gi_38), (cX4_rest, gi_39), (cX5_end, gi_40), (cX5_brake, gi_41), (cX0_touchesAt, gi_42), (cX5_touch, gi_43), (cX0_differenceWithoutSign, gi_44), (cX4_mayGo, gi_45), (cX4_touchesAnew, gi_46), (cX0_goTo, gi_47), (cX4_goNearer, gi_48), (cX4_playMoves, gi_49), (cX4_judgeRun, gi_50), (cX4_runAway, gi_51), (cX4_finish, gi_52), (cX4_playSecond, gi_53), (cX5_pass, gi_54), (cJ6_bitCount_0f7a4, gi_55), (cL_second, gi_56), (cX5_meanHeight, gi_57), (cX0_copyFrom, gi_58), (cX2_copyFrom, gi_59), (cX1_copyFrom, gi_60), (cX4_copyFrom, gi_61), (cX4_mendBrakes, gi_62), (cX5_rehearse, gi_63), (cX5_secondsFor, gi_64), (cX5_stopsAt, gi_65), (cX5_wouldHurt, gi_66), (cL_isSo, gi_67), (cX5_digestOfMoves, gi_68), (cX5_isIn, gi_69), (cX5_isBehindFormer, gi_70), (cX5_smallestPlace, gi_71), (cX5_fits, gi_72), (cX5_digest, gi_73), (cL_law, gi_74)]
set_option maxRecDepth 100000 in
theorem gv_all : ∀ q ∈ gm_CI, ∀ ch ∈ q.2, g_okc q.1 ch = true := List.forall_mem_cons.mpr ⟨gv_0, List.forall_mem_cons.mpr ⟨gv_1, List.forall_mem_cons.mpr ⟨gv_2, List.forall_mem_cons.mpr ⟨gv_3, List.forall_mem_cons.mpr ⟨gv_4, List.forall_mem_cons.mpr ⟨gv_5, List.forall_mem_cons.mpr ⟨gv_6, List.forall_mem_cons.mpr ⟨gv_7, List.forall_mem_cons.mpr ⟨gv_8, List.forall_mem_cons.mpr ⟨gv_9, List.forall_mem_cons.mpr ⟨gv_10, List.forall_mem_cons.mpr ⟨gv_11, List.forall_mem_cons.mpr ⟨gv_12, List.forall_mem_cons.mpr ⟨gv_13, List.forall_mem_cons.mpr ⟨gv_14, List.forall_mem_cons.mpr ⟨gv_15, List.forall_mem_cons.mpr ⟨gv_16, List.forall_mem_cons.mpr ⟨gv_17, List.forall_mem_cons.mpr ⟨gv_18, List.forall_mem_cons.mpr ⟨gv_19, List.forall_mem_cons.mpr ⟨gv_20, List.forall_mem_cons.mpr ⟨gv_21, List.forall_mem_cons.mpr ⟨gv_22, List.forall_mem_cons.mpr ⟨gv_23, List.forall_mem_cons.mpr ⟨gv_24, List.forall_mem_cons.mpr ⟨gv_25, List.forall_mem_cons.mpr ⟨gv_26, List.forall_mem_cons.mpr ⟨gv_27, List.forall_mem_cons.mpr ⟨gv_28, List.forall_mem_cons.mpr ⟨gv_29, List.forall_mem_cons.mpr ⟨gv_30, List.forall_mem_cons.mpr ⟨gv_31, List.forall_mem_cons.mpr ⟨gv_32, List.forall_mem_cons.mpr ⟨gv_33, List.forall_mem_cons.mpr ⟨gv_34, List.forall_mem_cons.mpr ⟨gv_35, List.forall_mem_cons.mpr ⟨gv_36, List.forall_mem_cons.mpr ⟨gv_37, List.forall_mem_cons.mpr ⟨gv_38, List.forall_mem_cons.mpr ⟨gv_39, List.forall_mem_cons.mpr ⟨gv_40, List.forall_mem_cons.mpr ⟨gv_41, List.forall_mem_cons.mpr ⟨gv_42, List.forall_mem_cons.mpr ⟨gv_43, List.forall_mem_cons.mpr ⟨gv_44, List.forall_mem_cons.mpr ⟨gv_45, List.forall_mem_cons.mpr ⟨gv_46, List.forall_mem_cons.mpr ⟨gv_47, List.forall_mem_cons.mpr ⟨gv_48, List.forall_mem_cons.mpr ⟨gv_49, List.forall_mem_cons.mpr ⟨gv_50, List.forall_mem_cons.mpr ⟨gv_51, List.forall_mem_cons.mpr ⟨gv_52, List.forall_mem_cons.mpr ⟨gv_53, List.forall_mem_cons.mpr ⟨gv_54, List.forall_mem_cons.mpr ⟨gv_55, List.forall_mem_cons.mpr ⟨gv_56, List.forall_mem_cons.mpr ⟨gv_57, List.forall_mem_cons.mpr ⟨gv_58, List.forall_mem_cons.mpr ⟨gv_59, List.forall_mem_cons.mpr ⟨gv_60, List.forall_mem_cons.mpr ⟨gv_61, List.forall_mem_cons.mpr ⟨gv_62, List.forall_mem_cons.mpr ⟨gv_63, List.forall_mem_cons.mpr ⟨gv_64, List.forall_mem_cons.mpr ⟨gv_65, List.forall_mem_cons.mpr ⟨gv_66, List.forall_mem_cons.mpr ⟨gv_67, List.forall_mem_cons.mpr ⟨gv_68, List.forall_mem_cons.mpr ⟨gv_69, List.forall_mem_cons.mpr ⟨gv_70, List.forall_mem_cons.mpr ⟨gv_71, List.forall_mem_cons.mpr ⟨gv_72, List.forall_mem_cons.mpr ⟨gv_73, List.forall_mem_cons.mpr ⟨gv_74, fun _ h => absurd h List.not_mem_nil⟩⟩⟩⟩⟩⟩⟩⟩⟩⟩⟩⟩⟩⟩⟩⟩⟩⟩⟩⟩⟩⟩⟩⟩⟩⟩⟩⟩⟩⟩⟩⟩⟩⟩⟩⟩⟩⟩⟩⟩⟩⟩⟩⟩⟩⟩⟩⟩⟩⟩⟩⟩⟩⟩⟩⟩⟩⟩⟩⟩⟩⟩⟩⟩⟩⟩⟩⟩⟩⟩⟩⟩⟩⟩⟩
