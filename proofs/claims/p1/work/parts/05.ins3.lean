def gi_110_0 : List (Nat × Instr × Nat) := [(0, .aload_n 0, 1), (1, .dup, 1), (2, .getfield 89, 3), (5, .iconst 1, 1), (6, .iadd, 1), (7, .putfield 89, 3), (10, .aload_n 0, 1), (11, .getfield 12, 3), (14, .invokevirtual 36, 3), (17, .astore_n 1, 1), (18, .aload_n 1, 1), (19, .invokeinterface 40 1, 5), (24, .ifCond .eq 23, 3), (27, .aload_n 1, 1), (28, .invokeinterface 46 1, 5)]
set_option maxRecDepth 100000 in
theorem gv_110_0 : g_okc cX6_pass gi_110_0 = true := by decide +kernel
def gi_110_1 : List (Nat × Instr × Nat) := [(33, .checkcast 50, 3), (36, .astore_n 2, 1), (37, .aload_n 2, 1), (38, .bipush 11, 2), (40, .aload_n 2, 1), (41, .iconst 2, 1), (42, .iaload, 1), (43, .iastore, 1), (44, .goto (-26), 3), (47, .iconst 0, 1), (48, .istore_n 1, 1), (49, .aload_n 0, 1), (50, .getfield 29, 3), (53, .iconst (-1), 1), (54, .if_icmp .eq 15, 3), (57, .aload_n 0, 1), (58, .getfield 64, 3), (61, .ifCond .ne 8, 3)]
set_option maxRecDepth 100000 in
theorem gv_110_1 : g_okc cX6_pass gi_110_1 = true := by decide +kernel
def gi_110_2 : List (Nat × Instr × Nat) := [(64, .aload_n 0, 1), (65, .invokevirtual 92, 3), (68, .istore_n 1, 1), (69, .iconst 0, 1), (70, .istore_n 2, 1), (71, .iload_n 2, 1), (72, .aload_n 0, 1), (73, .getfield 12, 3), (76, .invokevirtual 81, 3), (79, .if_icmp .ge 62, 3), (82, .aload_n 0, 1), (83, .getfield 12, 3), (86, .iload_n 2, 1), (87, .invokevirtual 71, 3), (90, .checkcast 50, 3), (93, .bipush 6, 2), (95, .iaload, 1)]
set_option maxRecDepth 100000 in
theorem gv_110_2 : g_okc cX6_pass gi_110_2 = true := by decide +kernel
def gi_110_3 : List (Nat × Instr × Nat) := [(96, .iconst 1, 1), (97, .if_icmp .ne 38, 3), (100, .aload_n 0, 1), (101, .getfield 12, 3), (104, .iload_n 2, 1), (105, .invokevirtual 71, 3), (108, .checkcast 50, 3), (111, .bipush 11, 2), (113, .iaload, 1), (114, .aload_n 0, 1), (115, .getfield 12, 3), (118, .iload_n 2, 1), (119, .invokevirtual 71, 3), (122, .checkcast 50, 3), (125, .iconst 2, 1), (126, .iaload, 1), (127, .if_icmp .ne 8, 3)]
set_option maxRecDepth 100000 in
theorem gv_110_3 : g_okc cX6_pass gi_110_3 = true := by decide +kernel
def gi_110_4 : List (Nat × Instr × Nat) := [(130, .aload_n 0, 1), (131, .iload_n 2, 1), (132, .invokevirtual 95, 3), (135, .iinc 2 1, 3), (138, .goto (-67), 3), (141, .aload_n 0, 1), (142, .getfield 29, 3), (145, .iconst (-1), 1), (146, .if_icmp .eq 10, 3), (149, .aload_n 0, 1), (150, .invokevirtual 99, 3), (153, .ifCond .le 5, 3), (156, .iload_n 1, 1), (157, .ireturn, 1), (158, .aload_n 0, 1), (159, .getfield 21, 3)]
set_option maxRecDepth 100000 in
theorem gv_110_4 : g_okc cX6_pass gi_110_4 = true := by decide +kernel
def gi_110_5 : List (Nat × Instr × Nat) := [(162, .aload_n 0, 1), (163, .getfield 29, 3), (166, .iaload, 1), (167, .istore_n 2, 1), (168, .aload_n 0, 1), (169, .dup, 1), (170, .getfield 102, 3), (173, .iconst 1, 1), (174, .iadd, 1), (175, .putfield 102, 3), (178, .aload_n 0, 1), (179, .invokevirtual 105, 3), (182, .iload_n 2, 1), (183, .iconst (-1), 1), (184, .if_icmp .eq 19, 3), (187, .iload_n 2, 1), (188, .aload_n 0, 1), (189, .getfield 18, 3)]
set_option maxRecDepth 100000 in
theorem gv_110_5 : g_okc cX6_pass gi_110_5 = true := by decide +kernel
def gi_110_6 : List (Nat × Instr × Nat) := [(192, .invokevirtual 81, 3), (195, .if_icmp .ge 8, 3), (198, .aload_n 0, 1), (199, .iload_n 2, 1), (200, .invokevirtual 108, 3), (203, .iload_n 1, 1), (204, .ireturn, 1)]
set_option maxRecDepth 100000 in
theorem gv_110_6 : g_okc cX6_pass gi_110_6 = true := by decide +kernel
def gi_110 : List (List (Nat × Instr × Nat)) := [gi_110_0, gi_110_1, gi_110_2, gi_110_3, gi_110_4, gi_110_5, gi_110_6]
theorem gv_110 : ∀ ch ∈ gi_110, g_okc cX6_pass ch = true := List.forall_mem_cons.mpr ⟨gv_110_0, List.forall_mem_cons.mpr ⟨gv_110_1, List.forall_mem_cons.mpr ⟨gv_110_2, List.forall_mem_cons.mpr ⟨gv_110_3, List.forall_mem_cons.mpr ⟨gv_110_4, List.forall_mem_cons.mpr ⟨gv_110_5, List.forall_mem_cons.mpr ⟨gv_110_6, fun _ h => absurd h List.not_mem_nil⟩⟩⟩⟩⟩⟩⟩
def gi_111_0 : List (Nat × Instr × Nat) := [(0, .aload_n 0, 1), (1, .iconst 0, 1), (2, .putfield 23, 3), (5, .iload_n 1, 1), (6, .iconst 1, 1), (7, .bipush 120, 2), (9, .invokestatic 34, 3), (12, .ifCond .ne 9, 3), (15, .aload_n 0, 1), (16, .iconst 1, 1), (17, .invokevirtual 41, 3), (20, .ireturn, 1), (21, .aload_n 0, 1), (22, .getfield 19, 3), (25, .getfield 118, 3), (28, .iload_n 1, 1), (29, .iadd, 1), (30, .sipush 3000, 3)]
set_option maxRecDepth 100000 in
theorem gv_111_0 : g_okc cX7_pass gi_111_0 = true := by decide +kernel
def gi_111_1 : List (Nat × Instr × Nat) := [(33, .if_icmp .le 9, 3), (36, .aload_n 0, 1), (37, .iconst 2, 1), (38, .invokevirtual 41, 3), (41, .ireturn, 1), (42, .iconst 0, 1), (43, .istore_n 2, 1), (44, .iconst 0, 1), (45, .istore_n 3, 1), (46, .iload_n 3, 1), (47, .iload_n 1, 1), (48, .if_icmp .ge 19, 3), (51, .iload_n 2, 1), (52, .aload_n 0, 1), (53, .getfield 19, 3), (56, .invokevirtual 121, 3), (59, .iadd, 1), (60, .istore_n 2, 1), (61, .iinc 3 1, 3)]
set_option maxRecDepth 100000 in
theorem gv_111_1 : g_okc cX7_pass gi_111_1 = true := by decide +kernel
def gi_111_2 : List (Nat × Instr × Nat) := [(64, .goto (-18), 3), (67, .iload_n 2, 1), (68, .ireturn, 1)]
set_option maxRecDepth 100000 in
theorem gv_111_2 : g_okc cX7_pass gi_111_2 = true := by decide +kernel
def gi_111 : List (List (Nat × Instr × Nat)) := [gi_111_0, gi_111_1, gi_111_2]
theorem gv_111 : ∀ ch ∈ gi_111, g_okc cX7_pass ch = true := List.forall_mem_cons.mpr ⟨gv_111_0, List.forall_mem_cons.mpr ⟨gv_111_1, List.forall_mem_cons.mpr ⟨gv_111_2, fun _ h => absurd h List.not_mem_nil⟩⟩⟩
def gi_112_0 : List (Nat × Instr × Nat) := [(0, .aload_n 0, 1), (1, .getfield 10, 3), (4, .iload_n 1, 1), (5, .invokevirtual 102, 3), (8, .astore_n 3, 1), (9, .iload_n 2, 1), (10, .tableswitch 154 0 11 #[62, 75, 80, 85, 90, 95, 100, 105, 110, 123, 136, 149], 62)]
set_option maxRecDepth 100000 in
theorem gv_112_0 : g_okc cX5_ofBar gi_112_0 = true := by decide +kernel
def gi_112_1 : List (Nat × Instr × Nat) := []
set_option maxRecDepth 100000 in
theorem gv_112_1 : g_okc cX5_ofBar gi_112_1 = true := by decide +kernel
def gi_112_2 : List (Nat × Instr × Nat) := [(72, .aload_n 3, 1), (73, .getfield 50, 3), (76, .ifCond .eq 7, 3), (79, .iconst 1, 1), (80, .goto 4, 3), (83, .iconst 0, 1), (84, .ireturn, 1), (85, .aload_n 3, 1), (86, .getfield 56, 3), (89, .ireturn, 1), (90, .aload_n 3, 1), (91, .getfield 223, 3), (94, .ireturn, 1), (95, .aload_n 3, 1)]
set_option maxRecDepth 100000 in
theorem gv_112_2 : g_okc cX5_ofBar gi_112_2 = true := by decide +kernel
def gi_112_3 : List (Nat × Instr × Nat) := [(96, .getfield 182, 3), (99, .ireturn, 1), (100, .aload_n 3, 1), (101, .getfield 168, 3), (104, .ireturn, 1), (105, .aload_n 3, 1), (106, .getfield 226, 3), (109, .ireturn, 1), (110, .aload_n 3, 1), (111, .getfield 229, 3), (114, .ireturn, 1), (115, .aload_n 3, 1), (116, .invokevirtual 185, 3), (119, .ireturn, 1), (120, .aload_n 3, 1), (121, .getfield 151, 3), (124, .ifCond .eq 7, 3), (127, .iconst 1, 1)]
set_option maxRecDepth 100000 in
theorem gv_112_3 : g_okc cX5_ofBar gi_112_3 = true := by decide +kernel
def gi_112_4 : List (Nat × Instr × Nat) := [(128, .goto 4, 3), (131, .iconst 0, 1), (132, .ireturn, 1), (133, .aload_n 3, 1), (134, .getfield 154, 3), (137, .ifCond .eq 7, 3), (140, .iconst 1, 1), (141, .goto 4, 3), (144, .iconst 0, 1), (145, .ireturn, 1), (146, .aload_n 3, 1), (147, .getfield 207, 3), (150, .ifCond .eq 7, 3), (153, .iconst 1, 1), (154, .goto 4, 3), (157, .iconst 0, 1), (158, .ireturn, 1), (159, .aload_n 3, 1)]
set_option maxRecDepth 100000 in
theorem gv_112_4 : g_okc cX5_ofBar gi_112_4 = true := by decide +kernel
def gi_112_5 : List (Nat × Instr × Nat) := [(160, .getfield 232, 3), (163, .ireturn, 1), (164, .new 30, 3), (167, .dup, 1), (168, .ldc 235, 2), (170, .invokespecial 34, 3), (173, .athrow, 1)]
set_option maxRecDepth 100000 in
theorem gv_112_5 : g_okc cX5_ofBar gi_112_5 = true := by decide +kernel
def gi_112 : List (List (Nat × Instr × Nat)) := [gi_112_0, gi_112_1, gi_112_2, gi_112_3, gi_112_4, gi_112_5]
theorem gv_112 : ∀ ch ∈ gi_112, g_okc cX5_ofBar ch = true := List.forall_mem_cons.mpr ⟨gv_112_0, List.forall_mem_cons.mpr ⟨gv_112_1, List.forall_mem_cons.mpr ⟨gv_112_2, List.forall_mem_cons.mpr ⟨gv_112_3, List.forall_mem_cons.mpr ⟨gv_112_4, List.forall_mem_cons.mpr ⟨gv_112_5, fun _ h => absurd h List.not_mem_nil⟩⟩⟩⟩⟩⟩
def gi_113_0 : List (Nat × Instr × Nat) := [(0, .aload_n 3, 1), (1, .iconst 0, 1), (2, .aload_n 0, 1), (3, .iload_n 1, 1), (4, .iload_n 2, 1), (5, .invokevirtual 66, 3), (8, .i2l, 1), (9, .lastore, 1), (10, .goto 11, 3), (13, .astore 4, 2), (15, .iconst 1, 1), (16, .ireturn, 1), (17, .astore 4, 2), (19, .iconst 2, 1), (20, .ireturn, 1), (21, .iconst 0, 1), (22, .ireturn, 1)]
set_option maxRecDepth 100000 in
theorem gv_113_0 : g_okc cL_ofBar gi_113_0 = true := by decide +kernel
def gi_113 : List (List (Nat × Instr × Nat)) := [gi_113_0]
theorem gv_113 : ∀ ch ∈ gi_113, g_okc cL_ofBar ch = true := List.forall_mem_cons.mpr ⟨gv_113_0, fun _ h => absurd h List.not_mem_nil⟩
def gi_114_0 : List (Nat × Instr × Nat) := [(0, .aload_n 0, 1), (1, .getfield 19, 3), (4, .getfield 27, 3), (7, .iload_n 1, 1), (8, .invokevirtual 60, 3), (11, .checkcast 81, 3), (14, .astore_n 3, 1), (15, .bipush 12, 2), (17, .newarray .int, 2), (19, .dup, 1), (20, .iconst 0, 1), (21, .aload_n 3, 1), (22, .iconst 0, 1), (23, .iaload, 1), (24, .iastore, 1), (25, .dup, 1), (26, .iconst 1, 1), (27, .aload_n 3, 1), (28, .iconst 1, 1), (29, .iaload, 1), (30, .iastore, 1), (31, .dup, 1)]
set_option maxRecDepth 100000 in
theorem gv_114_0 : g_okc cX7_ofBarNow gi_114_0 = true := by decide +kernel
def gi_114_1 : List (Nat × Instr × Nat) := [(32, .iconst 2, 1), (33, .aload_n 3, 1), (34, .iconst 2, 1), (35, .iaload, 1), (36, .iastore, 1), (37, .dup, 1), (38, .iconst 3, 1), (39, .aload_n 3, 1), (40, .iconst 3, 1), (41, .iaload, 1), (42, .iastore, 1), (43, .dup, 1), (44, .iconst 4, 1), (45, .aload_n 3, 1), (46, .bipush 8, 2), (48, .iaload, 1), (49, .iastore, 1), (50, .dup, 1), (51, .iconst 5, 1), (52, .aload_n 3, 1), (53, .bipush 9, 2), (55, .iaload, 1), (56, .iastore, 1), (57, .dup, 1), (58, .bipush 6, 2), (60, .aload_n 3, 1), (61, .bipush 10, 2), (63, .iaload, 1)]
set_option maxRecDepth 100000 in
theorem gv_114_1 : g_okc cX7_ofBarNow gi_114_1 = true := by decide +kernel
def gi_114_2 : List (Nat × Instr × Nat) := [(64, .iastore, 1), (65, .dup, 1), (66, .bipush 7, 2), (68, .aload_n 3, 1), (69, .invokestatic 101, 3), (72, .iastore, 1), (73, .dup, 1), (74, .bipush 8, 2), (76, .aload_n 3, 1), (77, .iconst 4, 1), (78, .iaload, 1), (79, .iastore, 1), (80, .dup, 1), (81, .bipush 9, 2), (83, .aload_n 3, 1), (84, .iconst 5, 1), (85, .iaload, 1), (86, .iastore, 1), (87, .dup, 1), (88, .bipush 10, 2), (90, .aload_n 3, 1), (91, .bipush 6, 2), (93, .iaload, 1), (94, .iastore, 1), (95, .dup, 1)]
set_option maxRecDepth 100000 in
theorem gv_114_2 : g_okc cX7_ofBarNow gi_114_2 = true := by decide +kernel
def gi_114_3 : List (Nat × Instr × Nat) := [(96, .bipush 11, 2), (98, .aload_n 3, 1), (99, .bipush 7, 2), (101, .iaload, 1), (102, .iastore, 1), (103, .astore 4, 2), (105, .aload 4, 2), (107, .iload_n 2, 1), (108, .iaload, 1), (109, .ireturn, 1)]
set_option maxRecDepth 100000 in
theorem gv_114_3 : g_okc cX7_ofBarNow gi_114_3 = true := by decide +kernel
def gi_114 : List (List (Nat × Instr × Nat)) := [gi_114_0, gi_114_1, gi_114_2, gi_114_3]
theorem gv_114 : ∀ ch ∈ gi_114, g_okc cX7_ofBarNow ch = true := List.forall_mem_cons.mpr ⟨gv_114_0, List.forall_mem_cons.mpr ⟨gv_114_1, List.forall_mem_cons.mpr ⟨gv_114_2, List.forall_mem_cons.mpr ⟨gv_114_3, fun _ h => absurd h List.not_mem_nil⟩⟩⟩⟩
def gi_115_0 : List (Nat × Instr × Nat) := [(0, .aload_n 0, 1), (1, .iconst 0, 1), (2, .putfield 23, 3), (5, .aload_n 0, 1), (6, .iload_n 1, 1), (7, .invokevirtual 57, 3), (10, .ifCond .ne 9, 3), (13, .aload_n 0, 1), (14, .iconst 1, 1), (15, .invokevirtual 41, 3), (18, .ireturn, 1), (19, .iload_n 2, 1), (20, .iconst 0, 1), (21, .bipush 11, 2), (23, .invokestatic 34, 3), (26, .ifCond .eq 12, 3), (29, .aload_n 0, 1), (30, .iload_n 1, 1), (31, .iload_n 2, 1)]
set_option maxRecDepth 100000 in
theorem gv_115_0 : g_okc cX7_ofBar gi_115_0 = true := by decide +kernel
def gi_115_1 : List (Nat × Instr × Nat) := [(32, .invokevirtual 124, 3), (35, .goto 8, 3), (38, .aload_n 0, 1), (39, .iconst 2, 1), (40, .invokevirtual 41, 3), (43, .ireturn, 1)]
set_option maxRecDepth 100000 in
theorem gv_115_1 : g_okc cX7_ofBar gi_115_1 = true := by decide +kernel
def gi_115 : List (List (Nat × Instr × Nat)) := [gi_115_0, gi_115_1]
theorem gv_115 : ∀ ch ∈ gi_115, g_okc cX7_ofBar ch = true := List.forall_mem_cons.mpr ⟨gv_115_0, List.forall_mem_cons.mpr ⟨gv_115_1, fun _ h => absurd h List.not_mem_nil⟩⟩
def gi_116_0 : List (Nat × Instr × Nat) := [(0, .aload_n 0, 1), (1, .iload_n 1, 1), (2, .invokevirtual 157, 3), (5, .astore_n 3, 1), (6, .iload_n 2, 1), (7, .tableswitch 49 0 3 #[29, 34, 39, 44], 29)]
set_option maxRecDepth 100000 in
theorem gv_116_0 : g_okc cX5_ofPiece gi_116_0 = true := by decide +kernel
def gi_116_1 : List (Nat × Instr × Nat) := [(36, .aload_n 3, 1), (37, .getfield 73, 3), (40, .ireturn, 1), (41, .aload_n 3, 1), (42, .getfield 76, 3), (45, .ireturn, 1), (46, .aload_n 3, 1), (47, .getfield 79, 3), (50, .ireturn, 1), (51, .aload_n 3, 1), (52, .getfield 161, 3), (55, .ireturn, 1), (56, .new 30, 3), (59, .dup, 1), (60, .ldc 237, 2), (62, .invokespecial 34, 3)]
set_option maxRecDepth 100000 in
theorem gv_116_1 : g_okc cX5_ofPiece gi_116_1 = true := by decide +kernel
def gi_116_2 : List (Nat × Instr × Nat) := [(65, .athrow, 1)]
set_option maxRecDepth 100000 in
theorem gv_116_2 : g_okc cX5_ofPiece gi_116_2 = true := by decide +kernel
def gi_116 : List (List (Nat × Instr × Nat)) := [gi_116_0, gi_116_1, gi_116_2]
theorem gv_116 : ∀ ch ∈ gi_116, g_okc cX5_ofPiece ch = true := List.forall_mem_cons.mpr ⟨gv_116_0, List.forall_mem_cons.mpr ⟨gv_116_1, List.forall_mem_cons.mpr ⟨gv_116_2, fun _ h => absurd h List.not_mem_nil⟩⟩⟩
def gi_117_0 : List (Nat × Instr × Nat) := [(0, .aload_n 3, 1), (1, .iconst 0, 1), (2, .aload_n 0, 1), (3, .iload_n 1, 1), (4, .iload_n 2, 1), (5, .invokevirtual 69, 3), (8, .i2l, 1), (9, .lastore, 1), (10, .goto 11, 3), (13, .astore 4, 2), (15, .iconst 1, 1), (16, .ireturn, 1), (17, .astore 4, 2), (19, .iconst 2, 1), (20, .ireturn, 1), (21, .iconst 0, 1), (22, .ireturn, 1)]
set_option maxRecDepth 100000 in
theorem gv_117_0 : g_okc cL_ofPiece gi_117_0 = true := by decide +kernel
def gi_117 : List (List (Nat × Instr × Nat)) := [gi_117_0]
theorem gv_117 : ∀ ch ∈ gi_117, g_okc cL_ofPiece ch = true := List.forall_mem_cons.mpr ⟨gv_117_0, fun _ h => absurd h List.not_mem_nil⟩
def gi_118_0 : List (Nat × Instr × Nat) := [(0, .aload_n 0, 1), (1, .iconst 0, 1), (2, .putfield 23, 3), (5, .aload_n 0, 1), (6, .iload_n 1, 1), (7, .invokevirtual 91, 3), (10, .ifCond .ne 9, 3), (13, .aload_n 0, 1), (14, .iconst 1, 1), (15, .invokevirtual 41, 3), (18, .ireturn, 1), (19, .iload_n 2, 1), (20, .iconst 0, 1), (21, .iconst 3, 1), (22, .invokestatic 34, 3), (25, .ifCond .eq 19, 3), (28, .aload_n 0, 1), (29, .getfield 10, 3)]
set_option maxRecDepth 100000 in
theorem gv_118_0 : g_okc cX7_ofPiece gi_118_0 = true := by decide +kernel
def gi_118_1 : List (Nat × Instr × Nat) := [(32, .iload_n 1, 1), (33, .invokevirtual 60, 3), (36, .checkcast 81, 3), (39, .iload_n 2, 1), (40, .iaload, 1), (41, .goto 8, 3), (44, .aload_n 0, 1), (45, .iconst 2, 1), (46, .invokevirtual 41, 3), (49, .ireturn, 1)]
set_option maxRecDepth 100000 in
theorem gv_118_1 : g_okc cX7_ofPiece gi_118_1 = true := by decide +kernel
def gi_118 : List (List (Nat × Instr × Nat)) := [gi_118_0, gi_118_1]
theorem gv_118 : ∀ ch ∈ gi_118, g_okc cX7_ofPiece ch = true := List.forall_mem_cons.mpr ⟨gv_118_0, List.forall_mem_cons.mpr ⟨gv_118_1, fun _ h => absurd h List.not_mem_nil⟩⟩
def gi_119_0 : List (Nat × Instr × Nat) := [(0, .iload_n 1, 1), (1, .ifCond .lt 11, 3), (4, .iload_n 1, 1), (5, .aload_n 0, 1), (6, .getfield 22, 3), (9, .if_icmp .lt 13, 3), (12, .new 29, 3), (15, .dup, 1), (16, .ldc 31, 2), (18, .invokespecial 33, 3), (21, .athrow, 1), (22, .aload_n 0, 1), (23, .getfield 17, 3), (26, .iload_n 1, 1), (27, .aaload, 1), (28, .areturn, 1)]
set_option maxRecDepth 100000 in
theorem gv_119_0 : g_okc cX1_moveAt gi_119_0 = true := by decide +kernel
def gi_119 : List (List (Nat × Instr × Nat)) := [gi_119_0]
theorem gv_119 : ∀ ch ∈ gi_119, g_okc cX1_moveAt ch = true := List.forall_mem_cons.mpr ⟨gv_119_0, fun _ h => absurd h List.not_mem_nil⟩
def gi_120_0 : List (Nat × Instr × Nat) := [(0, .aload_n 0, 1), (1, .getfield 10, 3), (4, .iload_n 1, 1), (5, .invokevirtual 98, 3), (8, .iload_n 2, 1), (9, .invokevirtual 239, 3), (12, .astore 4, 2), (14, .iload_n 3, 1), (15, .tableswitch 73 0 5 #[37, 43, 49, 55, 61, 67], 37)]
set_option maxRecDepth 100000 in
theorem gv_120_0 : g_okc cX5_ofMove gi_120_0 = true := by decide +kernel
def gi_120_1 : List (Nat × Instr × Nat) := [(52, .aload 4, 2), (54, .getfield 132, 3), (57, .ireturn, 1), (58, .aload 4, 2), (60, .getfield 137, 3), (63, .ireturn, 1)]
set_option maxRecDepth 100000 in
theorem gv_120_1 : g_okc cX5_ofMove gi_120_1 = true := by decide +kernel
def gi_120_2 : List (Nat × Instr × Nat) := [(64, .aload 4, 2), (66, .getfield 140, 3), (69, .ireturn, 1), (70, .aload 4, 2), (72, .getfield 143, 3), (75, .ireturn, 1), (76, .aload 4, 2), (78, .getfield 243, 3), (81, .ireturn, 1), (82, .aload 4, 2), (84, .getfield 246, 3), (87, .ireturn, 1), (88, .new 30, 3), (91, .dup, 1), (92, .ldc 249, 2), (94, .invokespecial 34, 3)]
set_option maxRecDepth 100000 in
theorem gv_120_2 : g_okc cX5_ofMove gi_120_2 = true := by decide +kernel
def gi_120_3 : List (Nat × Instr × Nat) := [(97, .athrow, 1)]
set_option maxRecDepth 100000 in
theorem gv_120_3 : g_okc cX5_ofMove gi_120_3 = true := by decide +kernel
def gi_120 : List (List (Nat × Instr × Nat)) := [gi_120_0, gi_120_1, gi_120_2, gi_120_3]
theorem gv_120 : ∀ ch ∈ gi_120, g_okc cX5_ofMove ch = true := List.forall_mem_cons.mpr ⟨gv_120_0, List.forall_mem_cons.mpr ⟨gv_120_1, List.forall_mem_cons.mpr ⟨gv_120_2, List.forall_mem_cons.mpr ⟨gv_120_3, fun _ h => absurd h List.not_mem_nil⟩⟩⟩⟩
def gi_121_0 : List (Nat × Instr × Nat) := [(0, .aload 4, 2), (2, .iconst 0, 1), (3, .aload_n 0, 1), (4, .iload_n 1, 1), (5, .iload_n 2, 1), (6, .iload_n 3, 1), (7, .invokevirtual 72, 3), (10, .i2l, 1), (11, .lastore, 1), (12, .goto 11, 3), (15, .astore 5, 2), (17, .iconst 1, 1), (18, .ireturn, 1), (19, .astore 5, 2), (21, .iconst 2, 1), (22, .ireturn, 1), (23, .iconst 0, 1), (24, .ireturn, 1)]
set_option maxRecDepth 100000 in
theorem gv_121_0 : g_okc cL_ofMove gi_121_0 = true := by decide +kernel
def gi_121 : List (List (Nat × Instr × Nat)) := [gi_121_0]
theorem gv_121 : ∀ ch ∈ gi_121, g_okc cL_ofMove ch = true := List.forall_mem_cons.mpr ⟨gv_121_0, fun _ h => absurd h List.not_mem_nil⟩
def gi_122_0 : List (Nat × Instr × Nat) := [(0, .aload_n 0, 1), (1, .iconst 0, 1), (2, .putfield 23, 3), (5, .aload_n 0, 1), (6, .iload_n 1, 1), (7, .invokevirtual 53, 3), (10, .ifCond .eq 30, 3), (13, .iload_n 2, 1), (14, .iconst 0, 1), (15, .aload_n 0, 1), (16, .getfield 19, 3), (19, .getfield 38, 3), (22, .iload_n 1, 1), (23, .invokevirtual 60, 3), (26, .checkcast 7, 3), (29, .invokevirtual 30, 3)]
set_option maxRecDepth 100000 in
theorem gv_122_0 : g_okc cX7_ofMove gi_122_0 = true := by decide +kernel
def gi_122_1 : List (Nat × Instr × Nat) := [(32, .iconst 1, 1), (33, .isub, 1), (34, .invokestatic 34, 3), (37, .ifCond .ne 9, 3), (40, .aload_n 0, 1), (41, .iconst 1, 1), (42, .invokevirtual 41, 3), (45, .ireturn, 1), (46, .iload_n 3, 1), (47, .iconst 0, 1), (48, .iconst 5, 1), (49, .invokestatic 34, 3), (52, .ifCond .eq 29, 3), (55, .aload_n 0, 1), (56, .getfield 19, 3), (59, .getfield 38, 3), (62, .iload_n 1, 1), (63, .invokevirtual 60, 3)]
set_option maxRecDepth 100000 in
theorem gv_122_1 : g_okc cX7_ofMove gi_122_1 = true := by decide +kernel
def gi_122_2 : List (Nat × Instr × Nat) := [(66, .checkcast 7, 3), (69, .iload_n 2, 1), (70, .invokevirtual 60, 3), (73, .checkcast 81, 3), (76, .iload_n 3, 1), (77, .iaload, 1), (78, .goto 8, 3), (81, .aload_n 0, 1), (82, .iconst 2, 1), (83, .invokevirtual 41, 3), (86, .ireturn, 1)]
set_option maxRecDepth 100000 in
theorem gv_122_2 : g_okc cX7_ofMove gi_122_2 = true := by decide +kernel
def gi_122 : List (List (Nat × Instr × Nat)) := [gi_122_0, gi_122_1, gi_122_2]
theorem gv_122 : ∀ ch ∈ gi_122, g_okc cX7_ofMove ch = true := List.forall_mem_cons.mpr ⟨gv_122_0, List.forall_mem_cons.mpr ⟨gv_122_1, List.forall_mem_cons.mpr ⟨gv_122_2, fun _ h => absurd h List.not_mem_nil⟩⟩⟩
def gi_123_0 : List (Nat × Instr × Nat) := [(0, .aload_n 0, 1), (1, .getfield 10, 3), (4, .iload_n 1, 1), (5, .invokevirtual 102, 3), (8, .astore_n 3, 1), (9, .aload_n 0, 1), (10, .getfield 10, 3), (13, .iload_n 2, 1), (14, .invokevirtual 102, 3), (17, .astore 4, 2), (19, .aload_n 3, 1), (20, .aload_n 3, 1), (21, .getfield 223, 3), (24, .aload 4, 2), (26, .invokevirtual 251, 3), (29, .ireturn, 1)]
set_option maxRecDepth 100000 in
theorem gv_123_0 : g_okc cX5_touch gi_123_0 = true := by decide +kernel
def gi_123 : List (List (Nat × Instr × Nat)) := [gi_123_0]
theorem gv_123 : ∀ ch ∈ gi_123, g_okc cX5_touch ch = true := List.forall_mem_cons.mpr ⟨gv_123_0, fun _ h => absurd h List.not_mem_nil⟩
def gi_124_0 : List (Nat × Instr × Nat) := [(0, .aload_n 3, 1), (1, .iconst 0, 1), (2, .aload_n 0, 1), (3, .iload_n 1, 1), (4, .iload_n 2, 1), (5, .invokevirtual 75, 3), (8, .ifCond .eq 7, 3), (11, .lconst 1, 1), (12, .goto 4, 3), (15, .lconst 0, 1), (16, .lastore, 1), (17, .goto 7, 3), (20, .astore 4, 2), (22, .iconst 1, 1), (23, .ireturn, 1), (24, .iconst 0, 1), (25, .ireturn, 1)]
set_option maxRecDepth 100000 in
theorem gv_124_0 : g_okc cL_touch gi_124_0 = true := by decide +kernel
def gi_124 : List (List (Nat × Instr × Nat)) := [gi_124_0]
theorem gv_124 : ∀ ch ∈ gi_124, g_okc cL_touch ch = true := List.forall_mem_cons.mpr ⟨gv_124_0, fun _ h => absurd h List.not_mem_nil⟩
def gi_125_0 : List (Nat × Instr × Nat) := [(0, .aload_n 0, 1), (1, .aload_n 0, 1), (2, .iload_n 1, 1), (3, .invokevirtual 57, 3), (6, .ifCond .eq 15, 3), (9, .aload_n 0, 1), (10, .iload_n 2, 1), (11, .invokevirtual 57, 3), (14, .ifCond .eq 7, 3), (17, .iconst 0, 1), (18, .goto 4, 3), (21, .iconst 1, 1), (22, .putfield 23, 3), (25, .aload_n 0, 1), (26, .getfield 23, 3), (29, .ifCond .ne 35, 3)]
set_option maxRecDepth 100000 in
theorem gv_125_0 : g_okc cX7_touch gi_125_0 = true := by decide +kernel
def gi_125_1 : List (Nat × Instr × Nat) := [(32, .aload_n 0, 1), (33, .getfield 19, 3), (36, .iload_n 1, 1), (37, .aload_n 0, 1), (38, .getfield 19, 3), (41, .getfield 27, 3), (44, .iload_n 1, 1), (45, .invokevirtual 60, 3), (48, .checkcast 81, 3), (51, .iconst 2, 1), (52, .iaload, 1), (53, .iload_n 2, 1), (54, .invokevirtual 127, 3), (57, .ifCond .eq 7, 3), (60, .iconst 1, 1), (61, .goto 4, 3)]
set_option maxRecDepth 100000 in
theorem gv_125_1 : g_okc cX7_touch gi_125_1 = true := by decide +kernel
def gi_125_2 : List (Nat × Instr × Nat) := [(64, .iconst 0, 1), (65, .ireturn, 1)]
set_option maxRecDepth 100000 in
theorem gv_125_2 : g_okc cX7_touch gi_125_2 = true := by decide +kernel
def gi_125 : List (List (Nat × Instr × Nat)) := [gi_125_0, gi_125_1, gi_125_2]
theorem gv_125 : ∀ ch ∈ gi_125, g_okc cX7_touch ch = true := List.forall_mem_cons.mpr ⟨gv_125_0, List.forall_mem_cons.mpr ⟨gv_125_1, List.forall_mem_cons.mpr ⟨gv_125_2, fun _ h => absurd h List.not_mem_nil⟩⟩⟩
def gi_126_0 : List (Nat × Instr × Nat) := [(0, .iconst 0, 1), (1, .istore_n 1, 1), (2, .iconst 0, 1), (3, .istore_n 2, 1), (4, .iload_n 2, 1), (5, .aload_n 0, 1), (6, .getfield 37, 3), (9, .if_icmp .ge 27, 3), (12, .aload_n 0, 1), (13, .getfield 23, 3), (16, .iload_n 2, 1), (17, .aaload, 1), (18, .getfield 93, 3), (21, .ifCond .eq 9, 3), (24, .iload_n 1, 1), (25, .iconst 1, 1), (26, .iload_n 2, 1), (27, .ishl, 1), (28, .ior, 1), (29, .istore_n 1, 1), (30, .iinc 2 1, 3)]
set_option maxRecDepth 100000 in
theorem gv_126_0 : g_okc cX4_brokenBrakes gi_126_0 = true := by decide +kernel
def gi_126_1 : List (Nat × Instr × Nat) := [(33, .goto (-29), 3), (36, .iload_n 1, 1), (37, .ireturn, 1)]
set_option maxRecDepth 100000 in
theorem gv_126_1 : g_okc cX4_brokenBrakes gi_126_1 = true := by decide +kernel
def gi_126 : List (List (Nat × Instr × Nat)) := [gi_126_0, gi_126_1]
theorem gv_126 : ∀ ch ∈ gi_126, g_okc cX4_brokenBrakes ch = true := List.forall_mem_cons.mpr ⟨gv_126_0, List.forall_mem_cons.mpr ⟨gv_126_1, fun _ h => absurd h List.not_mem_nil⟩⟩
def gi_127_0 : List (Nat × Instr × Nat) := [(0, .iload_n 1, 1), (1, .tableswitch 212 0 15 #[79, 87, 95, 100, 108, 116, 124, 140, 148, 156, 164, 172, 180, 188, 196, 204], 79)]
set_option maxRecDepth 100000 in
theorem gv_127_0 : g_okc cX5_many gi_127_0 = true := by decide +kernel
def gi_127_1 : List (Nat × Instr × Nat) := []
set_option maxRecDepth 100000 in
theorem gv_127_1 : g_okc cX5_many gi_127_1 = true := by decide +kernel
def gi_127_2 : List (Nat × Instr × Nat) := [(80, .aload_n 0, 1), (81, .getfield 10, 3), (84, .getfield 212, 3), (87, .ireturn, 1), (88, .aload_n 0, 1), (89, .getfield 10, 3), (92, .getfield 37, 3), (95, .ireturn, 1)]
set_option maxRecDepth 100000 in
theorem gv_127_2 : g_okc cX5_many gi_127_2 = true := by decide +kernel
def gi_127_3 : List (Nat × Instr × Nat) := [(96, .aload_n 0, 1), (97, .getfield 68, 3), (100, .ireturn, 1), (101, .aload_n 0, 1), (102, .getfield 10, 3), (105, .getfield 84, 3), (108, .ireturn, 1), (109, .aload_n 0, 1), (110, .getfield 10, 3), (113, .getfield 148, 3), (116, .ireturn, 1), (117, .aload_n 0, 1), (118, .getfield 10, 3), (121, .getfield 112, 3), (124, .ireturn, 1), (125, .aload_n 0, 1), (126, .getfield 10, 3)]
set_option maxRecDepth 100000 in
theorem gv_127_3 : g_okc cX5_many gi_127_3 = true := by decide +kernel
def gi_127_4 : List (Nat × Instr × Nat) := [(129, .getfield 198, 3), (132, .ifCond .eq 7, 3), (135, .iconst 1, 1), (136, .goto 4, 3), (139, .iconst 0, 1), (140, .ireturn, 1), (141, .aload_n 0, 1), (142, .getfield 10, 3), (145, .getfield 255, 3), (148, .ireturn, 1), (149, .aload_n 0, 1), (150, .getfield 10, 3), (153, .invokevirtual 201, 3), (156, .ireturn, 1), (157, .aload_n 0, 1), (158, .getfield 10, 3)]
set_option maxRecDepth 100000 in
theorem gv_127_4 : g_okc cX5_many gi_127_4 = true := by decide +kernel
def gi_127_5 : List (Nat × Instr × Nat) := [(161, .getfield 258, 3), (164, .ireturn, 1), (165, .aload_n 0, 1), (166, .getfield 10, 3), (169, .getfield 261, 3), (172, .ireturn, 1), (173, .aload_n 0, 1), (174, .getfield 10, 3), (177, .getfield 264, 3), (180, .ireturn, 1), (181, .aload_n 0, 1), (182, .getfield 10, 3), (185, .getfield 267, 3), (188, .ireturn, 1), (189, .aload_n 0, 1), (190, .getfield 10, 3)]
set_option maxRecDepth 100000 in
theorem gv_127_5 : g_okc cX5_many gi_127_5 = true := by decide +kernel
def gi_127_6 : List (Nat × Instr × Nat) := [(193, .getfield 270, 3), (196, .ireturn, 1), (197, .aload_n 0, 1), (198, .getfield 10, 3), (201, .getfield 273, 3), (204, .ireturn, 1), (205, .aload_n 0, 1), (206, .getfield 10, 3), (209, .invokevirtual 274, 3), (212, .ireturn, 1), (213, .new 30, 3), (216, .dup, 1), (217, .ldc_w 277, 3), (220, .invokespecial 34, 3), (223, .athrow, 1)]
set_option maxRecDepth 100000 in
theorem gv_127_6 : g_okc cX5_many gi_127_6 = true := by decide +kernel
def gi_127 : List (List (Nat × Instr × Nat)) := [gi_127_0, gi_127_1, gi_127_2, gi_127_3, gi_127_4, gi_127_5, gi_127_6]
theorem gv_127 : ∀ ch ∈ gi_127, g_okc cX5_many ch = true := List.forall_mem_cons.mpr ⟨gv_127_0, List.forall_mem_cons.mpr ⟨gv_127_1, List.forall_mem_cons.mpr ⟨gv_127_2, List.forall_mem_cons.mpr ⟨gv_127_3, List.forall_mem_cons.mpr ⟨gv_127_4, List.forall_mem_cons.mpr ⟨gv_127_5, List.forall_mem_cons.mpr ⟨gv_127_6, fun _ h => absurd h List.not_mem_nil⟩⟩⟩⟩⟩⟩⟩
def gi_128_0 : List (Nat × Instr × Nat) := [(0, .aload_n 2, 1), (1, .iconst 0, 1), (2, .aload_n 0, 1), (3, .iload_n 1, 1), (4, .invokevirtual 79, 3), (7, .i2l, 1), (8, .lastore, 1), (9, .goto 6, 3), (12, .astore_n 3, 1), (13, .iconst 1, 1), (14, .ireturn, 1), (15, .iconst 0, 1), (16, .ireturn, 1)]
set_option maxRecDepth 100000 in
theorem gv_128_0 : g_okc cL_many gi_128_0 = true := by decide +kernel
def gi_128 : List (List (Nat × Instr × Nat)) := [gi_128_0]
theorem gv_128 : ∀ ch ∈ gi_128, g_okc cL_many ch = true := List.forall_mem_cons.mpr ⟨gv_128_0, fun _ h => absurd h List.not_mem_nil⟩
def gi_129_0 : List (Nat × Instr × Nat) := [(0, .iconst 0, 1), (1, .istore_n 2, 1), (2, .iconst 0, 1), (3, .istore_n 3, 1), (4, .iload_n 3, 1), (5, .aload_n 0, 1), (6, .getfield 19, 3), (9, .getfield 27, 3), (12, .invokevirtual 30, 3), (15, .if_icmp .ge 31, 3), (18, .iload_n 2, 1), (19, .aload_n 0, 1), (20, .getfield 19, 3), (23, .getfield 27, 3), (26, .iload_n 3, 1), (27, .invokevirtual 60, 3), (30, .checkcast 81, 3)]
set_option maxRecDepth 100000 in
theorem gv_129_0 : g_okc cX7_manyNow gi_129_0 = true := by decide +kernel
def gi_129_1 : List (Nat × Instr × Nat) := [(33, .bipush 6, 2), (35, .iaload, 1), (36, .iload_n 3, 1), (37, .ishl, 1), (38, .ior, 1), (39, .istore_n 2, 1), (40, .iinc 3 1, 3), (43, .goto (-39), 3), (46, .bipush 16, 2), (48, .newarray .int, 2), (50, .dup, 1), (51, .iconst 0, 1), (52, .aload_n 0, 1), (53, .getfield 19, 3), (56, .getfield 118, 3), (59, .iastore, 1), (60, .dup, 1), (61, .iconst 1, 1), (62, .aload_n 0, 1), (63, .getfield 19, 3)]
set_option maxRecDepth 100000 in
theorem gv_129_1 : g_okc cX7_manyNow gi_129_1 = true := by decide +kernel
def gi_129_2 : List (Nat × Instr × Nat) := [(66, .getfield 27, 3), (69, .invokevirtual 30, 3), (72, .iastore, 1), (73, .dup, 1), (74, .iconst 2, 1), (75, .aload_n 0, 1), (76, .getfield 10, 3), (79, .invokevirtual 30, 3), (82, .iastore, 1), (83, .dup, 1), (84, .iconst 3, 1), (85, .aload_n 0, 1), (86, .getfield 19, 3), (89, .getfield 38, 3), (92, .invokevirtual 30, 3), (95, .iastore, 1)]
set_option maxRecDepth 100000 in
theorem gv_129_2 : g_okc cX7_manyNow gi_129_2 = true := by decide +kernel
def gi_129_3 : List (Nat × Instr × Nat) := [(96, .dup, 1), (97, .iconst 4, 1), (98, .aload_n 0, 1), (99, .getfield 19, 3), (102, .getfield 82, 3), (105, .iastore, 1), (106, .dup, 1), (107, .iconst 5, 1), (108, .aload_n 0, 1), (109, .getfield 19, 3), (112, .getfield 64, 3), (115, .iastore, 1), (116, .dup, 1), (117, .bipush 6, 2), (119, .aload_n 0, 1), (120, .getfield 19, 3), (123, .getfield 108, 3), (126, .ifCond .eq 7, 3)]
set_option maxRecDepth 100000 in
theorem gv_129_3 : g_okc cX7_manyNow gi_129_3 = true := by decide +kernel
def gi_129_4 : List (Nat × Instr × Nat) := [(129, .iconst 1, 1), (130, .goto 4, 3), (133, .iconst 0, 1), (134, .iastore, 1), (135, .dup, 1), (136, .bipush 7, 2), (138, .aload_n 0, 1), (139, .getfield 19, 3), (142, .getfield 130, 3), (145, .iastore, 1), (146, .dup, 1), (147, .bipush 8, 2), (149, .aload_n 0, 1), (150, .getfield 19, 3), (153, .invokevirtual 112, 3), (156, .iastore, 1), (157, .dup, 1), (158, .bipush 9, 2)]
set_option maxRecDepth 100000 in
theorem gv_129_4 : g_okc cX7_manyNow gi_129_4 = true := by decide +kernel
def gi_129_5 : List (Nat × Instr × Nat) := [(160, .aload_n 0, 1), (161, .getfield 19, 3), (164, .getfield 133, 3), (167, .iastore, 1), (168, .dup, 1), (169, .bipush 10, 2), (171, .aload_n 0, 1), (172, .getfield 19, 3), (175, .getfield 136, 3), (178, .iastore, 1), (179, .dup, 1), (180, .bipush 11, 2), (182, .aload_n 0, 1), (183, .getfield 19, 3), (186, .getfield 139, 3), (189, .iastore, 1), (190, .dup, 1), (191, .bipush 12, 2)]
set_option maxRecDepth 100000 in
theorem gv_129_5 : g_okc cX7_manyNow gi_129_5 = true := by decide +kernel
def gi_129_6 : List (Nat × Instr × Nat) := [(193, .aload_n 0, 1), (194, .getfield 19, 3), (197, .getfield 142, 3), (200, .iastore, 1), (201, .dup, 1), (202, .bipush 13, 2), (204, .aload_n 0, 1), (205, .getfield 19, 3), (208, .getfield 145, 3), (211, .iastore, 1), (212, .dup, 1), (213, .bipush 14, 2), (215, .aload_n 0, 1), (216, .getfield 19, 3), (219, .getfield 148, 3), (222, .iastore, 1), (223, .dup, 1)]
set_option maxRecDepth 100000 in
theorem gv_129_6 : g_okc cX7_manyNow gi_129_6 = true := by decide +kernel
def gi_129_7 : List (Nat × Instr × Nat) := [(224, .bipush 15, 2), (226, .iload_n 2, 1), (227, .iastore, 1), (228, .astore_n 3, 1), (229, .aload_n 3, 1), (230, .iload_n 1, 1), (231, .iaload, 1), (232, .ireturn, 1)]
set_option maxRecDepth 100000 in
theorem gv_129_7 : g_okc cX7_manyNow gi_129_7 = true := by decide +kernel
def gi_129 : List (List (Nat × Instr × Nat)) := [gi_129_0, gi_129_1, gi_129_2, gi_129_3, gi_129_4, gi_129_5, gi_129_6, gi_129_7]
theorem gv_129 : ∀ ch ∈ gi_129, g_okc cX7_manyNow ch = true := List.forall_mem_cons.mpr ⟨gv_129_0, List.forall_mem_cons.mpr ⟨gv_129_1, List.forall_mem_cons.mpr ⟨gv_129_2, List.forall_mem_cons.mpr ⟨gv_129_3, List.forall_mem_cons.mpr ⟨gv_129_4, List.forall_mem_cons.mpr ⟨gv_129_5, List.forall_mem_cons.mpr ⟨gv_129_6, List.forall_mem_cons.mpr ⟨gv_129_7, fun _ h => absurd h List.not_mem_nil⟩⟩⟩⟩⟩⟩⟩⟩
def gi_130_0 : List (Nat × Instr × Nat) := [(0, .aload_n 0, 1), (1, .iconst 0, 1), (2, .putfield 23, 3), (5, .iload_n 1, 1), (6, .iconst 0, 1), (7, .bipush 15, 2), (9, .invokestatic 34, 3), (12, .ifCond .eq 11, 3), (15, .aload_n 0, 1), (16, .iload_n 1, 1), (17, .invokevirtual 151, 3), (20, .goto 8, 3), (23, .aload_n 0, 1), (24, .iconst 1, 1), (25, .invokevirtual 41, 3), (28, .ireturn, 1)]
set_option maxRecDepth 100000 in
theorem gv_130_0 : g_okc cX7_many gi_130_0 = true := by decide +kernel
def gi_130 : List (List (Nat × Instr × Nat)) := [gi_130_0]
theorem gv_130 : ∀ ch ∈ gi_130, g_okc cX7_many ch = true := List.forall_mem_cons.mpr ⟨gv_130_0, fun _ h => absurd h List.not_mem_nil⟩
def gi_131_0 : List (Nat × Instr × Nat) := [(0, .aload_n 0, 1), (1, .getfield 10, 3), (4, .getfield 37, 3), (7, .ifCond .ne 5, 3), (10, .dconst 0, 1), (11, .dreturn, 1), (12, .iconst 0, 1), (13, .istore_n 1, 1), (14, .iconst 0, 1), (15, .istore_n 2, 1), (16, .iload_n 2, 1), (17, .aload_n 0, 1), (18, .getfield 10, 3), (21, .getfield 37, 3), (24, .if_icmp .ge 24, 3), (27, .iload_n 1, 1), (28, .aload_n 0, 1), (29, .getfield 10, 3)]
set_option maxRecDepth 100000 in
theorem gv_131_0 : g_okc cX5_meanHeight gi_131_0 = true := by decide +kernel
def gi_131_1 : List (Nat × Instr × Nat) := [(32, .getfield 46, 3), (35, .iload_n 2, 1), (36, .aaload, 1), (37, .getfield 223, 3), (40, .iadd, 1), (41, .istore_n 1, 1), (42, .iinc 2 1, 3), (45, .goto (-29), 3), (48, .iload_n 1, 1), (49, .i2d, 1), (50, .aload_n 0, 1), (51, .getfield 10, 3), (54, .getfield 37, 3), (57, .i2d, 1), (58, .ddiv, 1), (59, .dreturn, 1)]
set_option maxRecDepth 100000 in
theorem gv_131_1 : g_okc cX5_meanHeight gi_131_1 = true := by decide +kernel
def gi_131 : List (List (Nat × Instr × Nat)) := [gi_131_0, gi_131_1]
theorem gv_131 : ∀ ch ∈ gi_131, g_okc cX5_meanHeight ch = true := List.forall_mem_cons.mpr ⟨gv_131_0, List.forall_mem_cons.mpr ⟨gv_131_1, fun _ h => absurd h List.not_mem_nil⟩⟩
def gi_132_0 : List (Nat × Instr × Nat) := [(0, .aload_n 0, 1), (1, .getfield 48, 3), (4, .ifCond .ne 7, 3), (7, .iconst 1, 1), (8, .goto 4, 3), (11, .iconst 0, 1), (12, .ireturn, 1)]
set_option maxRecDepth 100000 in
theorem gv_132_0 : g_okc cJx4a65c_isEmpty_aae02 gi_132_0 = true := by decide +kernel
def gi_132 : List (List (Nat × Instr × Nat)) := [gi_132_0]
theorem gv_132 : ∀ ch ∈ gi_132, g_okc cJx4a65c_isEmpty_aae02 ch = true := List.forall_mem_cons.mpr ⟨gv_132_0, fun _ h => absurd h List.not_mem_nil⟩
def gi_133_0 : List (Nat × Instr × Nat) := [(0, .aload_n 0, 1), (1, .iconst 0, 1), (2, .putfield 23, 3), (5, .iconst 0, 1), (6, .istore_n 1, 1), (7, .aload_n 0, 1), (8, .getfield 19, 3), (11, .getfield 27, 3), (14, .invokevirtual 67, 3), (17, .astore_n 2, 1), (18, .aload_n 2, 1), (19, .invokeinterface 71 1, 5), (24, .ifCond .eq 22, 3), (27, .aload_n 2, 1), (28, .invokeinterface 77 1, 5)]
set_option maxRecDepth 100000 in
theorem gv_133_0 : g_okc cX7_meanHeight gi_133_0 = true := by decide +kernel
def gi_133_1 : List (Nat × Instr × Nat) := [(33, .checkcast 81, 3), (36, .astore_n 3, 1), (37, .iload_n 1, 1), (38, .aload_n 3, 1), (39, .iconst 2, 1), (40, .iaload, 1), (41, .iadd, 1), (42, .istore_n 1, 1), (43, .goto (-25), 3), (46, .aload_n 0, 1), (47, .getfield 19, 3), (50, .getfield 27, 3), (53, .invokevirtual 154, 3), (56, .ifCond .eq 7, 3), (59, .dconst 0, 1), (60, .goto 17, 3), (63, .iload_n 1, 1)]
set_option maxRecDepth 100000 in
theorem gv_133_1 : g_okc cX7_meanHeight gi_133_1 = true := by decide +kernel
def gi_133_2 : List (Nat × Instr × Nat) := [(64, .i2d, 1), (65, .aload_n 0, 1), (66, .getfield 19, 3), (69, .getfield 27, 3), (72, .invokevirtual 30, 3), (75, .i2d, 1), (76, .ddiv, 1), (77, .dreturn, 1)]
set_option maxRecDepth 100000 in
theorem gv_133_2 : g_okc cX7_meanHeight gi_133_2 = true := by decide +kernel
def gi_133 : List (List (Nat × Instr × Nat)) := [gi_133_0, gi_133_1, gi_133_2]
theorem gv_133 : ∀ ch ∈ gi_133, g_okc cX7_meanHeight ch = true := List.forall_mem_cons.mpr ⟨gv_133_0, List.forall_mem_cons.mpr ⟨gv_133_1, List.forall_mem_cons.mpr ⟨gv_133_2, fun _ h => absurd h List.not_mem_nil⟩⟩⟩
def gi_134_0 : List (Nat × Instr × Nat) := [(0, .aload_n 0, 1), (1, .aload_n 1, 1), (2, .getfield 17, 3), (5, .putfield 17, 3), (8, .aload_n 0, 1), (9, .aload_n 1, 1), (10, .getfield 20, 3), (13, .putfield 20, 3), (16, .aload_n 0, 1), (17, .aload_n 1, 1), (18, .getfield 23, 3), (21, .putfield 23, 3), (24, .aload_n 0, 1), (25, .aload_n 1, 1), (26, .getfield 26, 3), (29, .putfield 26, 3)]
set_option maxRecDepth 100000 in
theorem gv_134_0 : g_okc cX0_copyFrom gi_134_0 = true := by decide +kernel
def gi_134_1 : List (Nat × Instr × Nat) := [(32, .aload_n 0, 1), (33, .aload_n 1, 1), (34, .getfield 29, 3), (37, .putfield 29, 3), (40, .aload_n 0, 1), (41, .aload_n 1, 1), (42, .getfield 32, 3), (45, .putfield 32, 3), (48, .aload_n 0, 1), (49, .aload_n 1, 1), (50, .getfield 35, 3), (53, .putfield 35, 3), (56, .aload_n 0, 1), (57, .aload_n 1, 1), (58, .getfield 38, 3), (61, .putfield 38, 3)]
set_option maxRecDepth 100000 in
theorem gv_134_1 : g_okc cX0_copyFrom gi_134_1 = true := by decide +kernel
def gi_134_2 : List (Nat × Instr × Nat) := [(64, .aload_n 0, 1), (65, .aload_n 1, 1), (66, .getfield 7, 3), (69, .putfield 7, 3), (72, .aload_n 0, 1), (73, .aload_n 1, 1), (74, .getfield 41, 3), (77, .putfield 41, 3), (80, .aload_n 0, 1), (81, .aload_n 1, 1), (82, .getfield 44, 3), (85, .putfield 44, 3), (88, .aload_n 0, 1), (89, .aload_n 1, 1), (90, .getfield 47, 3), (93, .putfield 47, 3)]
set_option maxRecDepth 100000 in
theorem gv_134_2 : g_okc cX0_copyFrom gi_134_2 = true := by decide +kernel
def gi_134_3 : List (Nat × Instr × Nat) := [(96, .return_, 1)]
set_option maxRecDepth 100000 in
theorem gv_134_3 : g_okc cX0_copyFrom gi_134_3 = true := by decide +kernel
def gi_134 : List (List (Nat × Instr × Nat)) := [gi_134_0, gi_134_1, gi_134_2, gi_134_3]
theorem gv_134 : ∀ ch ∈ gi_134, g_okc cX0_copyFrom ch = true := List.forall_mem_cons.mpr ⟨gv_134_0, List.forall_mem_cons.mpr ⟨gv_134_1, List.forall_mem_cons.mpr ⟨gv_134_2, List.forall_mem_cons.mpr ⟨gv_134_3, fun _ h => absurd h List.not_mem_nil⟩⟩⟩⟩
def gi_135_0 : List (Nat × Instr × Nat) := [(0, .aload_n 0, 1), (1, .aload_n 1, 1), (2, .getfield 15, 3), (5, .putfield 15, 3), (8, .aload_n 0, 1), (9, .aload_n 1, 1), (10, .getfield 18, 3), (13, .putfield 18, 3), (16, .aload_n 0, 1), (17, .aload_n 1, 1), (18, .getfield 21, 3), (21, .putfield 21, 3), (24, .aload_n 0, 1), (25, .aload_n 1, 1), (26, .getfield 24, 3), (29, .putfield 24, 3)]
set_option maxRecDepth 100000 in
theorem gv_135_0 : g_okc cX2_copyFrom gi_135_0 = true := by decide +kernel
def gi_135_1 : List (Nat × Instr × Nat) := [(32, .aload_n 0, 1), (33, .aload_n 1, 1), (34, .getfield 9, 3), (37, .putfield 9, 3), (40, .aload_n 0, 1), (41, .aload_n 1, 1), (42, .getfield 27, 3), (45, .putfield 27, 3), (48, .return_, 1)]
set_option maxRecDepth 100000 in
theorem gv_135_1 : g_okc cX2_copyFrom gi_135_1 = true := by decide +kernel
def gi_135 : List (List (Nat × Instr × Nat)) := [gi_135_0, gi_135_1]
theorem gv_135 : ∀ ch ∈ gi_135, g_okc cX2_copyFrom ch = true := List.forall_mem_cons.mpr ⟨gv_135_0, List.forall_mem_cons.mpr ⟨gv_135_1, fun _ h => absurd h List.not_mem_nil⟩⟩
def gi_136_0 : List (Nat × Instr × Nat) := [(0, .aload_n 0, 1), (1, .aload_n 1, 1), (2, .getfield 9, 3), (5, .putfield 9, 3), (8, .aload_n 0, 1), (9, .aload_n 1, 1), (10, .getfield 22, 3), (13, .putfield 22, 3), (16, .iconst 0, 1), (17, .istore_n 2, 1), (18, .iload_n 2, 1), (19, .aload_n 0, 1), (20, .getfield 22, 3), (23, .if_icmp .ge 24, 3), (26, .aload_n 0, 1), (27, .getfield 17, 3), (30, .iload_n 2, 1), (31, .aaload, 1)]
set_option maxRecDepth 100000 in
theorem gv_136_0 : g_okc cX1_copyFrom gi_136_0 = true := by decide +kernel
def gi_136_1 : List (Nat × Instr × Nat) := [(32, .aload_n 1, 1), (33, .getfield 17, 3), (36, .iload_n 2, 1), (37, .aaload, 1), (38, .invokevirtual 25, 3), (41, .iinc 2 1, 3), (44, .goto (-26), 3), (47, .return_, 1)]
set_option maxRecDepth 100000 in
theorem gv_136_1 : g_okc cX1_copyFrom gi_136_1 = true := by decide +kernel
def gi_136 : List (List (Nat × Instr × Nat)) := [gi_136_0, gi_136_1]
theorem gv_136 : ∀ ch ∈ gi_136, g_okc cX1_copyFrom ch = true := List.forall_mem_cons.mpr ⟨gv_136_0, List.forall_mem_cons.mpr ⟨gv_136_1, fun _ h => absurd h List.not_mem_nil⟩⟩
def gi_137_0 : List (Nat × Instr × Nat) := [(0, .aload_n 0, 1), (1, .aload_n 1, 1), (2, .getfield 37, 3), (5, .putfield 37, 3), (8, .iconst 0, 1), (9, .istore_n 2, 1), (10, .iload_n 2, 1), (11, .aload_n 0, 1), (12, .getfield 37, 3), (15, .if_icmp .ge 24, 3), (18, .aload_n 0, 1), (19, .getfield 23, 3), (22, .iload_n 2, 1), (23, .aaload, 1), (24, .aload_n 1, 1), (25, .getfield 23, 3), (28, .iload_n 2, 1), (29, .aaload, 1), (30, .invokevirtual 40, 3)]
set_option maxRecDepth 100000 in
theorem gv_137_0 : g_okc cX4_copyFrom gi_137_0 = true := by decide +kernel
def gi_137_1 : List (Nat × Instr × Nat) := [(33, .iinc 2 1, 3), (36, .goto (-26), 3), (39, .aload_n 0, 1), (40, .aload_n 1, 1), (41, .getfield 44, 3), (44, .putfield 44, 3), (47, .iconst 0, 1), (48, .istore_n 2, 1), (49, .iload_n 2, 1), (50, .aload_n 0, 1), (51, .getfield 44, 3), (54, .if_icmp .ge 24, 3), (57, .aload_n 0, 1), (58, .getfield 32, 3), (61, .iload_n 2, 1), (62, .aaload, 1), (63, .aload_n 1, 1)]
set_option maxRecDepth 100000 in
theorem gv_137_1 : g_okc cX4_copyFrom gi_137_1 = true := by decide +kernel
def gi_137_2 : List (Nat × Instr × Nat) := [(64, .getfield 32, 3), (67, .iload_n 2, 1), (68, .aaload, 1), (69, .invokevirtual 47, 3), (72, .iinc 2 1, 3), (75, .goto (-26), 3), (78, .aload_n 0, 1), (79, .aload_n 1, 1), (80, .getfield 9, 3), (83, .putfield 9, 3), (86, .aload_n 0, 1), (87, .aload_n 1, 1), (88, .getfield 50, 3), (91, .putfield 50, 3), (94, .aload_n 0, 1), (95, .aload_n 1, 1)]
set_option maxRecDepth 100000 in
theorem gv_137_2 : g_okc cX4_copyFrom gi_137_2 = true := by decide +kernel
def gi_137_3 : List (Nat × Instr × Nat) := [(96, .getfield 53, 3), (99, .putfield 53, 3), (102, .aload_n 0, 1), (103, .aload_n 1, 1), (104, .getfield 15, 3), (107, .putfield 15, 3), (110, .aload_n 0, 1), (111, .aload_n 1, 1), (112, .getfield 56, 3), (115, .putfield 56, 3), (118, .aload_n 0, 1), (119, .aload_n 1, 1), (120, .getfield 60, 3), (123, .putfield 60, 3), (126, .aload_n 0, 1), (127, .aload_n 1, 1)]
set_option maxRecDepth 100000 in
theorem gv_137_3 : g_okc cX4_copyFrom gi_137_3 = true := by decide +kernel
def gi_137_4 : List (Nat × Instr × Nat) := [(128, .getfield 63, 3), (131, .putfield 63, 3), (134, .aload_n 0, 1), (135, .aload_n 1, 1), (136, .getfield 66, 3), (139, .putfield 66, 3), (142, .aload_n 0, 1), (143, .aload_n 1, 1), (144, .getfield 69, 3), (147, .putfield 69, 3), (150, .aload_n 0, 1), (151, .aload_n 1, 1), (152, .getfield 72, 3), (155, .putfield 72, 3), (158, .aload_n 0, 1), (159, .aload_n 1, 1)]
set_option maxRecDepth 100000 in
theorem gv_137_4 : g_okc cX4_copyFrom gi_137_4 = true := by decide +kernel
def gi_137_5 : List (Nat × Instr × Nat) := [(160, .getfield 75, 3), (163, .putfield 75, 3), (166, .aload_n 0, 1), (167, .aload_n 1, 1), (168, .getfield 78, 3), (171, .putfield 78, 3), (174, .aload_n 0, 1), (175, .aload_n 1, 1), (176, .getfield 81, 3), (179, .putfield 81, 3), (182, .aload_n 0, 1), (183, .iconst (-1), 1), (184, .putfield 18, 3), (187, .return_, 1)]
set_option maxRecDepth 100000 in
theorem gv_137_5 : g_okc cX4_copyFrom gi_137_5 = true := by decide +kernel
def gi_137 : List (List (Nat × Instr × Nat)) := [gi_137_0, gi_137_1, gi_137_2, gi_137_3, gi_137_4, gi_137_5]
theorem gv_137 : ∀ ch ∈ gi_137, g_okc cX4_copyFrom ch = true := List.forall_mem_cons.mpr ⟨gv_137_0, List.forall_mem_cons.mpr ⟨gv_137_1, List.forall_mem_cons.mpr ⟨gv_137_2, List.forall_mem_cons.mpr ⟨gv_137_3, List.forall_mem_cons.mpr ⟨gv_137_4, List.forall_mem_cons.mpr ⟨gv_137_5, fun _ h => absurd h List.not_mem_nil⟩⟩⟩⟩⟩⟩
def gi_138_0 : List (Nat × Instr × Nat) := [(0, .iconst 0, 1), (1, .istore_n 1, 1), (2, .iload_n 1, 1), (3, .aload_n 0, 1), (4, .getfield 37, 3), (7, .if_icmp .ge 19, 3), (10, .aload_n 0, 1), (11, .getfield 23, 3), (14, .iload_n 1, 1), (15, .aaload, 1), (16, .iconst 0, 1), (17, .putfield 93, 3), (20, .iinc 1 1, 3), (23, .goto (-21), 3), (26, .return_, 1)]
set_option maxRecDepth 100000 in
theorem gv_138_0 : g_okc cX4_mendBrakes gi_138_0 = true := by decide +kernel
def gi_138 : List (List (Nat × Instr × Nat)) := [gi_138_0]
theorem gv_138 : ∀ ch ∈ gi_138, g_okc cX4_mendBrakes ch = true := List.forall_mem_cons.mpr ⟨gv_138_0, fun _ h => absurd h List.not_mem_nil⟩
def gi_139_0 : List (Nat × Instr × Nat) := [(0, .aload_n 0, 1), (1, .getfield 16, 3), (4, .aload_n 0, 1), (5, .getfield 10, 3), (8, .invokevirtual 288, 3), (11, .aload_n 0, 1), (12, .getfield 16, 3), (15, .invokevirtual 343, 3), (18, .aload_n 0, 1), (19, .getfield 16, 3), (22, .iload_n 1, 1), (23, .invokevirtual 191, 3), (26, .iconst 1, 1), (27, .istore_n 2, 1), (28, .iload_n 2, 1), (29, .sipush 200, 3)]
set_option maxRecDepth 100000 in
theorem gv_139_0 : g_okc cX5_rehearse gi_139_0 = true := by decide +kernel
def gi_139_1 : List (Nat × Instr × Nat) := [(32, .if_icmp .gt 47, 3), (35, .aload_n 0, 1), (36, .getfield 16, 3), (39, .invokevirtual 220, 3), (42, .aload_n 0, 1), (43, .getfield 16, 3), (46, .getfield 198, 3), (49, .ifCond .eq 5, 3), (52, .iconst (-1), 1), (53, .ireturn, 1), (54, .aload_n 0, 1), (55, .getfield 16, 3), (58, .getfield 258, 3), (61, .aload_n 0, 1), (62, .getfield 10, 3)]
set_option maxRecDepth 100000 in
theorem gv_139_1 : g_okc cX5_rehearse gi_139_1 = true := by decide +kernel
def gi_139_2 : List (Nat × Instr × Nat) := [(65, .getfield 258, 3), (68, .if_icmp .eq 5, 3), (71, .iload_n 2, 1), (72, .ireturn, 1), (73, .iinc 2 1, 3), (76, .goto (-48), 3), (79, .iconst (-1), 1), (80, .ireturn, 1)]
set_option maxRecDepth 100000 in
theorem gv_139_2 : g_okc cX5_rehearse gi_139_2 = true := by decide +kernel
def gi_139 : List (List (Nat × Instr × Nat)) := [gi_139_0, gi_139_1, gi_139_2]
theorem gv_139 : ∀ ch ∈ gi_139, g_okc cX5_rehearse ch = true := List.forall_mem_cons.mpr ⟨gv_139_0, List.forall_mem_cons.mpr ⟨gv_139_1, List.forall_mem_cons.mpr ⟨gv_139_2, fun _ h => absurd h List.not_mem_nil⟩⟩⟩
def gi_140_0 : List (Nat × Instr × Nat) := [(0, .aload_n 0, 1), (1, .iload_n 1, 1), (2, .invokevirtual 279, 3), (5, .ireturn, 1)]
set_option maxRecDepth 100000 in
theorem gv_140_0 : g_okc cX5_secondsFor gi_140_0 = true := by decide +kernel
def gi_140 : List (List (Nat × Instr × Nat)) := [gi_140_0]
theorem gv_140 : ∀ ch ∈ gi_140, g_okc cX5_secondsFor ch = true := List.forall_mem_cons.mpr ⟨gv_140_0, fun _ h => absurd h List.not_mem_nil⟩
def gi_141_0 : List (Nat × Instr × Nat) := [(0, .aload_n 2, 1), (1, .iconst 0, 1), (2, .aload_n 0, 1), (3, .iload_n 1, 1), (4, .invokevirtual 82, 3), (7, .i2l, 1), (8, .lastore, 1), (9, .goto 6, 3), (12, .astore_n 3, 1), (13, .iconst 1, 1), (14, .ireturn, 1), (15, .iconst 0, 1), (16, .ireturn, 1)]
set_option maxRecDepth 100000 in
theorem gv_141_0 : g_okc cL_secondsFor gi_141_0 = true := by decide +kernel
def gi_141 : List (List (Nat × Instr × Nat)) := [gi_141_0]
theorem gv_141 : ∀ ch ∈ gi_141, g_okc cL_secondsFor ch = true := List.forall_mem_cons.mpr ⟨gv_141_0, fun _ h => absurd h List.not_mem_nil⟩
def gi_142_0 : List (Nat × Instr × Nat) := [(0, .new 13, 3), (3, .dup, 1), (4, .invokespecial 35, 3), (7, .astore_n 1, 1), (8, .aload_n 0, 1), (9, .getfield 12, 3), (12, .invokevirtual 36, 3), (15, .astore_n 2, 1), (16, .aload_n 2, 1), (17, .invokeinterface 40 1, 5), (22, .ifCond .eq 31, 3), (25, .aload_n 2, 1), (26, .invokeinterface 46 1, 5), (31, .checkcast 50, 3)]
set_option maxRecDepth 100000 in
theorem gv_142_0 : g_okc cX6_copy gi_142_0 = true := by decide +kernel
def gi_142_1 : List (Nat × Instr × Nat) := [(34, .astore_n 3, 1), (35, .aload_n 1, 1), (36, .getfield 12, 3), (39, .aload_n 3, 1), (40, .invokevirtual 51, 3), (43, .checkcast 50, 3), (46, .invokevirtual 54, 3), (49, .pop, 1), (50, .goto (-34), 3), (53, .aload_n 0, 1), (54, .getfield 18, 3), (57, .invokevirtual 36, 3), (60, .astore_n 2, 1), (61, .aload_n 2, 1), (62, .invokeinterface 40 1, 5)]
set_option maxRecDepth 100000 in
theorem gv_142_1 : g_okc cX6_copy gi_142_1 = true := by decide +kernel
def gi_142_2 : List (Nat × Instr × Nat) := [(67, .ifCond .eq 80, 3), (70, .aload_n 2, 1), (71, .invokeinterface 46 1, 5), (76, .checkcast 9, 3), (79, .astore_n 3, 1), (80, .new 9, 3), (83, .dup, 1), (84, .invokespecial 11, 3), (87, .astore 4, 2), (89, .aload_n 3, 1), (90, .invokevirtual 36, 3), (93, .astore 5, 2), (95, .aload 5, 2)]
set_option maxRecDepth 100000 in
theorem gv_142_2 : g_okc cX6_copy gi_142_2 = true := by decide +kernel
def gi_142_3 : List (Nat × Instr × Nat) := [(97, .invokeinterface 40 1, 5), (102, .ifCond .eq 32, 3), (105, .aload 5, 2), (107, .invokeinterface 46 1, 5), (112, .checkcast 50, 3), (115, .astore 6, 2), (117, .aload 4, 2), (119, .aload 6, 2), (121, .invokevirtual 51, 3), (124, .checkcast 50, 3), (127, .invokevirtual 54, 3)]
set_option maxRecDepth 100000 in
theorem gv_142_3 : g_okc cX6_copy gi_142_3 = true := by decide +kernel
def gi_142_4 : List (Nat × Instr × Nat) := [(130, .pop, 1), (131, .goto (-36), 3), (134, .aload_n 1, 1), (135, .getfield 18, 3), (138, .aload 4, 2), (140, .invokevirtual 54, 3), (143, .pop, 1), (144, .goto (-83), 3), (147, .aload_n 0, 1), (148, .getfield 21, 3), (151, .iconst 0, 1), (152, .aload_n 1, 1), (153, .getfield 21, 3), (156, .iconst 0, 1), (157, .bipush 6, 2), (159, .invokestatic 58, 3)]
set_option maxRecDepth 100000 in
theorem gv_142_4 : g_okc cX6_copy gi_142_4 = true := by decide +kernel
def gi_142_5 : List (Nat × Instr × Nat) := [(162, .aload_n 1, 1), (163, .aload_n 0, 1), (164, .getfield 25, 3), (167, .putfield 25, 3), (170, .aload_n 1, 1), (171, .aload_n 0, 1), (172, .getfield 29, 3), (175, .putfield 29, 3), (178, .aload_n 1, 1), (179, .aload_n 0, 1), (180, .getfield 64, 3), (183, .putfield 64, 3), (186, .aload_n 1, 1), (187, .aload_n 0, 1), (188, .getfield 68, 3), (191, .putfield 68, 3)]
set_option maxRecDepth 100000 in
theorem gv_142_5 : g_okc cX6_copy gi_142_5 = true := by decide +kernel
def gi_142_6 : List (Nat × Instr × Nat) := [(194, .aload_n 1, 1), (195, .areturn, 1)]
set_option maxRecDepth 100000 in
theorem gv_142_6 : g_okc cX6_copy gi_142_6 = true := by decide +kernel
def gi_142 : List (List (Nat × Instr × Nat)) := [gi_142_0, gi_142_1, gi_142_2, gi_142_3, gi_142_4, gi_142_5, gi_142_6]
theorem gv_142 : ∀ ch ∈ gi_142, g_okc cX6_copy ch = true := List.forall_mem_cons.mpr ⟨gv_142_0, List.forall_mem_cons.mpr ⟨gv_142_1, List.forall_mem_cons.mpr ⟨gv_142_2, List.forall_mem_cons.mpr ⟨gv_142_3, List.forall_mem_cons.mpr ⟨gv_142_4, List.forall_mem_cons.mpr ⟨gv_142_5, List.forall_mem_cons.mpr ⟨gv_142_6, fun _ h => absurd h List.not_mem_nil⟩⟩⟩⟩⟩⟩⟩
def gi_143_0 : List (Nat × Instr × Nat) := [(0, .aload_n 0, 1), (1, .getfield 19, 3), (4, .invokevirtual 157, 3), (7, .astore_n 2, 1), (8, .aload_n 2, 1), (9, .getfield 27, 3), (12, .invokevirtual 67, 3), (15, .astore_n 3, 1), (16, .aload_n 3, 1), (17, .invokeinterface 71 1, 5), (22, .ifCond .eq 23, 3), (25, .aload_n 3, 1), (26, .invokeinterface 77 1, 5), (31, .checkcast 81, 3)]
set_option maxRecDepth 100000 in
theorem gv_143_0 : g_okc cX7_played gi_143_0 = true := by decide +kernel
def gi_143_1 : List (Nat × Instr × Nat) := [(34, .astore 4, 2), (36, .aload 4, 2), (38, .bipush 6, 2), (40, .iconst 0, 1), (41, .iastore, 1), (42, .goto (-26), 3), (45, .aload_n 2, 1), (46, .iload_n 1, 1), (47, .invokevirtual 105, 3), (50, .aload_n 2, 1), (51, .getfield 118, 3), (54, .sipush 200, 3), (57, .if_icmp .ge 25, 3), (60, .aload_n 2, 1), (61, .getfield 133, 3)]
set_option maxRecDepth 100000 in
theorem gv_143_1 : g_okc cX7_played gi_143_1 = true := by decide +kernel
def gi_143_2 : List (Nat × Instr × Nat) := [(64, .ifCond .ne 18, 3), (67, .aload_n 2, 1), (68, .getfield 108, 3), (71, .ifCond .ne 11, 3), (74, .aload_n 2, 1), (75, .invokevirtual 121, 3), (78, .pop, 1), (79, .goto (-29), 3), (82, .aload_n 2, 1), (83, .areturn, 1)]
set_option maxRecDepth 100000 in
theorem gv_143_2 : g_okc cX7_played gi_143_2 = true := by decide +kernel
def gi_143 : List (List (Nat × Instr × Nat)) := [gi_143_0, gi_143_1, gi_143_2]
theorem gv_143 : ∀ ch ∈ gi_143, g_okc cX7_played ch = true := List.forall_mem_cons.mpr ⟨gv_143_0, List.forall_mem_cons.mpr ⟨gv_143_1, List.forall_mem_cons.mpr ⟨gv_143_2, fun _ h => absurd h List.not_mem_nil⟩⟩⟩
def gi_144_0 : List (Nat × Instr × Nat) := [(0, .aload_n 0, 1), (1, .iload_n 1, 1), (2, .invokevirtual 161, 3), (5, .astore_n 2, 1), (6, .aload_n 2, 1), (7, .getfield 133, 3), (10, .ifCond .le 18, 3), (13, .aload_n 2, 1), (14, .getfield 165, 3), (17, .iconst (-1), 1), (18, .if_icmp .ne 10, 3), (21, .aload_n 2, 1), (22, .getfield 118, 3), (25, .goto 4, 3), (28, .iconst (-1), 1), (29, .ireturn, 1)]
set_option maxRecDepth 100000 in
theorem gv_144_0 : g_okc cX7_secondsNow gi_144_0 = true := by decide +kernel
def gi_144 : List (List (Nat × Instr × Nat)) := [gi_144_0]
theorem gv_144 : ∀ ch ∈ gi_144, g_okc cX7_secondsNow ch = true := List.forall_mem_cons.mpr ⟨gv_144_0, fun _ h => absurd h List.not_mem_nil⟩
def gi_145_0 : List (Nat × Instr × Nat) := [(0, .aload_n 0, 1), (1, .iconst 0, 1), (2, .putfield 23, 3), (5, .aload_n 0, 1), (6, .iload_n 1, 1), (7, .invokevirtual 53, 3), (10, .ifCond .eq 11, 3), (13, .aload_n 0, 1), (14, .iload_n 1, 1), (15, .invokevirtual 168, 3), (18, .goto 8, 3), (21, .aload_n 0, 1), (22, .iconst 1, 1), (23, .invokevirtual 41, 3), (26, .ireturn, 1)]
set_option maxRecDepth 100000 in
theorem gv_145_0 : g_okc cX7_secondsFor gi_145_0 = true := by decide +kernel
def gi_145 : List (List (Nat × Instr × Nat)) := [gi_145_0]
theorem gv_145 : ∀ ch ∈ gi_145, g_okc cX7_secondsFor ch = true := List.forall_mem_cons.mpr ⟨gv_145_0, fun _ h => absurd h List.not_mem_nil⟩
def gi_146_0 : List (Nat × Instr × Nat) := [(0, .aload_n 0, 1), (1, .iload_n 1, 1), (2, .invokevirtual 279, 3), (5, .pop, 1), (6, .aload_n 0, 1), (7, .getfield 16, 3), (10, .getfield 283, 3), (13, .ireturn, 1)]
set_option maxRecDepth 100000 in
theorem gv_146_0 : g_okc cX5_stopsAt gi_146_0 = true := by decide +kernel
def gi_146 : List (List (Nat × Instr × Nat)) := [gi_146_0]
theorem gv_146 : ∀ ch ∈ gi_146, g_okc cX5_stopsAt ch = true := List.forall_mem_cons.mpr ⟨gv_146_0, fun _ h => absurd h List.not_mem_nil⟩
def gi_147_0 : List (Nat × Instr × Nat) := [(0, .aload_n 2, 1), (1, .iconst 0, 1), (2, .aload_n 0, 1), (3, .iload_n 1, 1), (4, .invokevirtual 85, 3), (7, .i2l, 1), (8, .lastore, 1), (9, .goto 6, 3), (12, .astore_n 3, 1), (13, .iconst 1, 1), (14, .ireturn, 1), (15, .iconst 0, 1), (16, .ireturn, 1)]
set_option maxRecDepth 100000 in
theorem gv_147_0 : g_okc cL_stopsAt gi_147_0 = true := by decide +kernel
def gi_147 : List (List (Nat × Instr × Nat)) := [gi_147_0]
theorem gv_147 : ∀ ch ∈ gi_147, g_okc cL_stopsAt ch = true := List.forall_mem_cons.mpr ⟨gv_147_0, fun _ h => absurd h List.not_mem_nil⟩
def gi_148_0 : List (Nat × Instr × Nat) := [(0, .aload_n 0, 1), (1, .iconst 0, 1), (2, .putfield 23, 3), (5, .aload_n 0, 1), (6, .iload_n 1, 1), (7, .invokevirtual 53, 3), (10, .ifCond .eq 14, 3), (13, .aload_n 0, 1), (14, .iload_n 1, 1), (15, .invokevirtual 161, 3), (18, .getfield 165, 3), (21, .goto 8, 3), (24, .aload_n 0, 1), (25, .iconst 1, 1), (26, .invokevirtual 41, 3), (29, .ireturn, 1)]
set_option maxRecDepth 100000 in
theorem gv_148_0 : g_okc cX7_stopsAt gi_148_0 = true := by decide +kernel
def gi_148 : List (List (Nat × Instr × Nat)) := [gi_148_0]
theorem gv_148 : ∀ ch ∈ gi_148, g_okc cX7_stopsAt ch = true := List.forall_mem_cons.mpr ⟨gv_148_0, fun _ h => absurd h List.not_mem_nil⟩
def gi_149_0 : List (Nat × Instr × Nat) := [(0, .iload_n 1, 1), (1, .iconst 1, 1), (2, .if_icmp .lt 9, 3), (5, .iload_n 1, 1), (6, .bipush 60, 2), (8, .if_icmp .le 14, 3), (11, .new 30, 3), (14, .dup, 1), (15, .ldc_w 286, 3), (18, .invokespecial 34, 3), (21, .athrow, 1), (22, .aload_n 0, 1), (23, .getfield 16, 3), (26, .aload_n 0, 1), (27, .getfield 10, 3), (30, .invokevirtual 288, 3)]
set_option maxRecDepth 100000 in
theorem gv_149_0 : g_okc cX5_wouldHurt gi_149_0 = true := by decide +kernel
def gi_149_1 : List (Nat × Instr × Nat) := [(33, .iconst 0, 1), (34, .istore_n 2, 1), (35, .iload_n 2, 1), (36, .iload_n 1, 1), (37, .if_icmp .ge 16, 3), (40, .aload_n 0, 1), (41, .getfield 16, 3), (44, .invokevirtual 220, 3), (47, .iinc 2 1, 3), (50, .goto (-15), 3), (53, .aload_n 0, 1), (54, .getfield 16, 3), (57, .getfield 270, 3), (60, .aload_n 0, 1), (61, .getfield 10, 3)]
set_option maxRecDepth 100000 in
theorem gv_149_1 : g_okc cX5_wouldHurt gi_149_1 = true := by decide +kernel
def gi_149_2 : List (Nat × Instr × Nat) := [(64, .getfield 270, 3), (67, .isub, 1), (68, .ireturn, 1)]
set_option maxRecDepth 100000 in
theorem gv_149_2 : g_okc cX5_wouldHurt gi_149_2 = true := by decide +kernel
def gi_149 : List (List (Nat × Instr × Nat)) := [gi_149_0, gi_149_1, gi_149_2]
theorem gv_149 : ∀ ch ∈ gi_149, g_okc cX5_wouldHurt ch = true := List.forall_mem_cons.mpr ⟨gv_149_0, List.forall_mem_cons.mpr ⟨gv_149_1, List.forall_mem_cons.mpr ⟨gv_149_2, fun _ h => absurd h List.not_mem_nil⟩⟩⟩
def gi_150_0 : List (Nat × Instr × Nat) := [(0, .aload_n 2, 1), (1, .iconst 0, 1), (2, .aload_n 0, 1), (3, .iload_n 1, 1), (4, .invokevirtual 88, 3), (7, .i2l, 1), (8, .lastore, 1), (9, .goto 6, 3), (12, .astore_n 3, 1), (13, .iconst 1, 1), (14, .ireturn, 1), (15, .iconst 0, 1), (16, .ireturn, 1)]
set_option maxRecDepth 100000 in
theorem gv_150_0 : g_okc cL_wouldHurt gi_150_0 = true := by decide +kernel
def gi_150 : List (List (Nat × Instr × Nat)) := [gi_150_0]
theorem gv_150 : ∀ ch ∈ gi_150, g_okc cL_wouldHurt ch = true := List.forall_mem_cons.mpr ⟨gv_150_0, fun _ h => absurd h List.not_mem_nil⟩
def gi_151_0 : List (Nat × Instr × Nat) := [(0, .aload_n 0, 1), (1, .getfield 19, 3), (4, .invokevirtual 157, 3), (7, .astore_n 2, 1), (8, .iconst 0, 1), (9, .istore_n 3, 1), (10, .iload_n 3, 1), (11, .iload_n 1, 1), (12, .if_icmp .ge 14, 3), (15, .aload_n 2, 1), (16, .invokevirtual 121, 3), (19, .pop, 1), (20, .iinc 3 1, 3), (23, .goto (-13), 3), (26, .aload_n 2, 1), (27, .getfield 145, 3), (30, .ireturn, 1)]
set_option maxRecDepth 100000 in
theorem gv_151_0 : g_okc cX7_hurtNow gi_151_0 = true := by decide +kernel
def gi_151 : List (List (Nat × Instr × Nat)) := [gi_151_0]
theorem gv_151 : ∀ ch ∈ gi_151, g_okc cX7_hurtNow ch = true := List.forall_mem_cons.mpr ⟨gv_151_0, fun _ h => absurd h List.not_mem_nil⟩
def gi_152_0 : List (Nat × Instr × Nat) := [(0, .aload_n 0, 1), (1, .iconst 0, 1), (2, .putfield 23, 3), (5, .iload_n 1, 1), (6, .iconst 1, 1), (7, .bipush 60, 2), (9, .invokestatic 34, 3), (12, .ifCond .eq 11, 3), (15, .aload_n 0, 1), (16, .iload_n 1, 1), (17, .invokevirtual 171, 3), (20, .goto 8, 3), (23, .aload_n 0, 1), (24, .iconst 1, 1), (25, .invokevirtual 41, 3), (28, .ireturn, 1)]
set_option maxRecDepth 100000 in
theorem gv_152_0 : g_okc cX7_wouldHurt gi_152_0 = true := by decide +kernel
def gi_152 : List (List (Nat × Instr × Nat)) := [gi_152_0]
theorem gv_152 : ∀ ch ∈ gi_152, g_okc cX7_wouldHurt ch = true := List.forall_mem_cons.mpr ⟨gv_152_0, fun _ h => absurd h List.not_mem_nil⟩
def gi_153_0 : List (Nat × Instr × Nat) := [(0, .iload_n 0, 1), (1, .iload_n 1, 1), (2, .ishr, 1), (3, .iconst 1, 1), (4, .iand, 1), (5, .iconst 1, 1), (6, .if_icmp .ne 7, 3), (9, .iconst 1, 1), (10, .goto 4, 3), (13, .iconst 0, 1), (14, .ireturn, 1)]
set_option maxRecDepth 100000 in
theorem gv_153_0 : g_okc cX5_isIn gi_153_0 = true := by decide +kernel
def gi_153 : List (List (Nat × Instr × Nat)) := [gi_153_0]
theorem gv_153 : ∀ ch ∈ gi_153, g_okc cX5_isIn ch = true := List.forall_mem_cons.mpr ⟨gv_153_0, fun _ h => absurd h List.not_mem_nil⟩
def gi_154_0 : List (Nat × Instr × Nat) := [(0, .iconst 0, 1), (1, .istore 4, 2), (3, .iload 4, 2), (5, .iload_n 1, 1), (6, .if_icmp .ge 56, 3), (9, .aload_n 0, 1), (10, .getfield 21, 3), (13, .iload 4, 2), (15, .aaload, 1), (16, .getfield 79, 3), (19, .aload_n 0, 1), (20, .getfield 21, 3), (23, .iload_n 1, 1), (24, .aaload, 1), (25, .getfield 79, 3), (28, .iadd, 1), (29, .istore 5, 2), (31, .iload_n 3, 1)]
set_option maxRecDepth 100000 in
theorem gv_154_0 : g_okc cX5_isBehindFormer gi_154_0 = true := by decide +kernel
def gi_154_1 : List (Nat × Instr × Nat) := [(32, .iload 4, 2), (34, .invokestatic 294, 3), (37, .ifCond .eq 19, 3), (40, .iload_n 2, 1), (41, .aload_n 0, 1), (42, .getfield 26, 3), (45, .iload 4, 2), (47, .iaload, 1), (48, .isub, 1), (49, .iload 5, 2), (51, .if_icmp .gt 5, 3), (54, .iconst 0, 1), (55, .ireturn, 1), (56, .iinc 4 1, 3), (59, .goto (-56), 3), (62, .iconst 1, 1), (63, .ireturn, 1)]
set_option maxRecDepth 100000 in
theorem gv_154_1 : g_okc cX5_isBehindFormer gi_154_1 = true := by decide +kernel
def gi_154 : List (List (Nat × Instr × Nat)) := [gi_154_0, gi_154_1]
theorem gv_154 : ∀ ch ∈ gi_154, g_okc cX5_isBehindFormer ch = true := List.forall_mem_cons.mpr ⟨gv_154_0, List.forall_mem_cons.mpr ⟨gv_154_1, fun _ h => absurd h List.not_mem_nil⟩⟩
