def g_okc (cc : ByteArray) (ch : List (Nat × Instr × Nat)) : Bool := ch.all fun e => decide (decode cc e.1 = .ok (e.2.1, e.2.2)) && (glen e.2.1 == e.2.2 || glen e.2.1 == 0)
def gi_0_0 : List (Nat × Instr × Nat) := [(0, .aload_n 0, 1), (1, .invokespecial 1, 3), (4, .aload_n 0, 1), (5, .iconst 1, 1), (6, .putfield 7, 3), (9, .aload_n 0, 1), (10, .iload_n 1, 1), (11, .putfield 13, 3), (14, .return_, 1)]
set_option maxRecDepth 100000 in
theorem gv_0_0 : g_okc cX0_init gi_0_0 = true := by decide +kernel
def gi_0 : List (List (Nat × Instr × Nat)) := [gi_0_0]
theorem gv_0 : ∀ ch ∈ gi_0, g_okc cX0_init ch = true := List.forall_mem_cons.mpr ⟨gv_0_0, fun _ h => absurd h List.not_mem_nil⟩
def gi_1_0 : List (Nat × Instr × Nat) := [(0, .aload_n 0, 1), (1, .invokespecial 3, 3), (4, .aload_n 0, 1), (5, .iconst (-1), 1), (6, .putfield 9, 3), (9, .return_, 1)]
set_option maxRecDepth 100000 in
theorem gv_1_0 : g_okc cX2_init gi_1_0 = true := by decide +kernel
def gi_1 : List (List (Nat × Instr × Nat)) := [gi_1_0]
theorem gv_1 : ∀ ch ∈ gi_1, g_okc cX2_init ch = true := List.forall_mem_cons.mpr ⟨gv_1_0, fun _ h => absurd h List.not_mem_nil⟩
def gi_2_0 : List (Nat × Instr × Nat) := [(0, .aload_n 0, 1), (1, .invokespecial 3, 3), (4, .aload_n 0, 1), (5, .iconst (-1), 1), (6, .putfield 9, 3), (9, .aload_n 0, 1), (10, .bipush 6, 2), (12, .anewarray 15, 3), (15, .putfield 17, 3), (18, .iconst 0, 1), (19, .istore_n 1, 1), (20, .iload_n 1, 1), (21, .bipush 6, 2), (23, .if_icmp .ge 22, 3), (26, .aload_n 0, 1), (27, .getfield 17, 3), (30, .iload_n 1, 1), (31, .new 15, 3)]
set_option maxRecDepth 100000 in
theorem gv_2_0 : g_okc cX1_init gi_2_0 = true := by decide +kernel
def gi_2_1 : List (Nat × Instr × Nat) := [(34, .dup, 1), (35, .invokespecial 21, 3), (38, .aastore, 1), (39, .iinc 1 1, 3), (42, .goto (-22), 3), (45, .return_, 1)]
set_option maxRecDepth 100000 in
theorem gv_2_1 : g_okc cX1_init gi_2_1 = true := by decide +kernel
def gi_2 : List (List (Nat × Instr × Nat)) := [gi_2_0, gi_2_1]
theorem gv_2 : ∀ ch ∈ gi_2, g_okc cX1_init ch = true := List.forall_mem_cons.mpr ⟨gv_2_0, List.forall_mem_cons.mpr ⟨gv_2_1, fun _ h => absurd h List.not_mem_nil⟩⟩
def gi_3_0 : List (Nat × Instr × Nat) := [(0, .aload_n 0, 1), (1, .invokespecial 3, 3), (4, .aload_n 0, 1), (5, .iconst 2, 1), (6, .putfield 9, 3), (9, .aload_n 0, 1), (10, .iconst (-1), 1), (11, .putfield 15, 3), (14, .aload_n 0, 1), (15, .iconst (-1), 1), (16, .putfield 18, 3), (19, .aload_n 0, 1), (20, .bipush 8, 2), (22, .anewarray 21, 3), (25, .putfield 23, 3), (28, .iconst 0, 1), (29, .istore_n 1, 1), (30, .iload_n 1, 1), (31, .bipush 8, 2)]
set_option maxRecDepth 100000 in
theorem gv_3_0 : g_okc cX4_init gi_3_0 = true := by decide +kernel
def gi_3_1 : List (Nat × Instr × Nat) := [(33, .if_icmp .ge 23, 3), (36, .aload_n 0, 1), (37, .getfield 23, 3), (40, .iload_n 1, 1), (41, .new 21, 3), (44, .dup, 1), (45, .iload_n 1, 1), (46, .invokespecial 27, 3), (49, .aastore, 1), (50, .iinc 1 1, 3), (53, .goto (-23), 3), (56, .aload_n 0, 1), (57, .bipush 6, 2), (59, .anewarray 30, 3), (62, .putfield 32, 3)]
set_option maxRecDepth 100000 in
theorem gv_3_1 : g_okc cX4_init gi_3_1 = true := by decide +kernel
def gi_3_2 : List (Nat × Instr × Nat) := [(65, .iconst 0, 1), (66, .istore_n 1, 1), (67, .iload_n 1, 1), (68, .bipush 6, 2), (70, .if_icmp .ge 22, 3), (73, .aload_n 0, 1), (74, .getfield 32, 3), (77, .iload_n 1, 1), (78, .new 30, 3), (81, .dup, 1), (82, .invokespecial 36, 3), (85, .aastore, 1), (86, .iinc 1 1, 3), (89, .goto (-22), 3), (92, .return_, 1)]
set_option maxRecDepth 100000 in
theorem gv_3_2 : g_okc cX4_init gi_3_2 = true := by decide +kernel
def gi_3 : List (List (Nat × Instr × Nat)) := [gi_3_0, gi_3_1, gi_3_2]
theorem gv_3 : ∀ ch ∈ gi_3, g_okc cX4_init ch = true := List.forall_mem_cons.mpr ⟨gv_3_0, List.forall_mem_cons.mpr ⟨gv_3_1, List.forall_mem_cons.mpr ⟨gv_3_2, fun _ h => absurd h List.not_mem_nil⟩⟩⟩
def gi_4_0 : List (Nat × Instr × Nat) := [(0, .aload_n 0, 1), (1, .invokespecial 3, 3), (4, .aload_n 0, 1), (5, .iconst (-1), 1), (6, .putfield 9, 3), (9, .return_, 1)]
set_option maxRecDepth 100000 in
theorem gv_4_0 : g_okc cX3_init gi_4_0 = true := by decide +kernel
def gi_4 : List (List (Nat × Instr × Nat)) := [gi_4_0]
theorem gv_4 : ∀ ch ∈ gi_4, g_okc cX3_init ch = true := List.forall_mem_cons.mpr ⟨gv_4_0, fun _ h => absurd h List.not_mem_nil⟩
def gi_5_0 : List (Nat × Instr × Nat) := [(0, .aload_n 0, 1), (1, .invokespecial 1, 3), (4, .aload_n 0, 1), (5, .new 7, 3), (8, .dup, 1), (9, .invokespecial 9, 3), (12, .putfield 10, 3), (15, .aload_n 0, 1), (16, .new 7, 3), (19, .dup, 1), (20, .invokespecial 9, 3), (23, .putfield 16, 3), (26, .aload_n 0, 1), (27, .bipush 10, 2), (29, .anewarray 19, 3)]
set_option maxRecDepth 100000 in
theorem gv_5_0 : g_okc cX5_init gi_5_0 = true := by decide +kernel
def gi_5_1 : List (Nat × Instr × Nat) := [(32, .putfield 21, 3), (35, .iconst 0, 1), (36, .istore_n 1, 1), (37, .iload_n 1, 1), (38, .bipush 10, 2), (40, .if_icmp .ge 22, 3), (43, .aload_n 0, 1), (44, .getfield 21, 3), (47, .iload_n 1, 1), (48, .new 19, 3), (51, .dup, 1), (52, .invokespecial 25, 3), (55, .aastore, 1), (56, .iinc 1 1, 3), (59, .goto (-22), 3), (62, .aload_n 0, 1), (63, .bipush 10, 2)]
set_option maxRecDepth 100000 in
theorem gv_5_1 : g_okc cX5_init gi_5_1 = true := by decide +kernel
def gi_5_2 : List (Nat × Instr × Nat) := [(65, .newarray .int, 2), (67, .putfield 26, 3), (70, .return_, 1)]
set_option maxRecDepth 100000 in
theorem gv_5_2 : g_okc cX5_init gi_5_2 = true := by decide +kernel
def gi_5 : List (List (Nat × Instr × Nat)) := [gi_5_0, gi_5_1, gi_5_2]
theorem gv_5 : ∀ ch ∈ gi_5, g_okc cX5_init ch = true := List.forall_mem_cons.mpr ⟨gv_5_0, List.forall_mem_cons.mpr ⟨gv_5_1, List.forall_mem_cons.mpr ⟨gv_5_2, fun _ h => absurd h List.not_mem_nil⟩⟩⟩
def gi_6_0 : List (Nat × Instr × Nat) := [(0, .iload_n 1, 1), (1, .aload_n 0, 1), (2, .arraylength, 1), (3, .if_icmp .ge 9, 3), (6, .aload_n 0, 1), (7, .iload_n 1, 1), (8, .iaload, 1), (9, .goto 9, 3), (12, .ldc 8, 2), (14, .iload_n 1, 1), (15, .iconst 3, 1), (16, .iadd, 1), (17, .imul, 1), (18, .ireturn, 1)]
set_option maxRecDepth 100000 in
theorem gv_6_0 : g_okc cL_cell gi_6_0 = true := by decide +kernel
def gi_6 : List (List (Nat × Instr × Nat)) := [gi_6_0]
theorem gv_6 : ∀ ch ∈ gi_6, g_okc cL_cell ch = true := List.forall_mem_cons.mpr ⟨gv_6_0, fun _ h => absurd h List.not_mem_nil⟩
def gi_7_0 : List (Nat × Instr × Nat) := [(0, .iload_n 0, 1), (1, .ldc 7, 2), (3, .iand, 1), (4, .iload_n 1, 1), (5, .irem, 1), (6, .ireturn, 1)]
set_option maxRecDepth 100000 in
theorem gv_7_0 : g_okc cL_below gi_7_0 = true := by decide +kernel
def gi_7 : List (List (Nat × Instr × Nat)) := [gi_7_0]
theorem gv_7 : ∀ ch ∈ gi_7, g_okc cL_below ch = true := List.forall_mem_cons.mpr ⟨gv_7_0, fun _ h => absurd h List.not_mem_nil⟩
def gi_8_0 : List (Nat × Instr × Nat) := [(0, .iload_n 2, 1), (1, .bipush 10, 2), (3, .if_icmp .lt 10, 3), (6, .iload_n 2, 1), (7, .sipush 300, 3), (10, .if_icmp .le 13, 3), (13, .new 30, 3), (16, .dup, 1), (17, .ldc 32, 2), (19, .invokespecial 34, 3), (22, .athrow, 1), (23, .aload_n 0, 1), (24, .getfield 10, 3), (27, .getfield 37, 3), (30, .bipush 8, 2)]
set_option maxRecDepth 100000 in
theorem gv_8_0 : g_okc cX5_bar gi_8_0 = true := by decide +kernel
def gi_8_1 : List (Nat × Instr × Nat) := [(32, .if_icmp .lt 13, 3), (35, .new 41, 3), (38, .dup, 1), (39, .ldc 43, 2), (41, .invokespecial 45, 3), (44, .athrow, 1), (45, .aload_n 0, 1), (46, .getfield 10, 3), (49, .getfield 46, 3), (52, .aload_n 0, 1), (53, .getfield 10, 3), (56, .getfield 37, 3), (59, .aaload, 1), (60, .astore_n 3, 1), (61, .aload_n 3, 1), (62, .iload_n 1, 1), (63, .putfield 50, 3)]
set_option maxRecDepth 100000 in
theorem gv_8_1 : g_okc cX5_bar gi_8_1 = true := by decide +kernel
def gi_8_2 : List (Nat × Instr × Nat) := [(66, .aload_n 3, 1), (67, .iload_n 2, 1), (68, .putfield 56, 3), (71, .aload_n 0, 1), (72, .getfield 10, 3), (75, .dup, 1), (76, .getfield 37, 3), (79, .iconst 1, 1), (80, .iadd, 1), (81, .putfield 37, 3), (84, .aload_n 3, 1), (85, .getfield 59, 3), (88, .ireturn, 1)]
set_option maxRecDepth 100000 in
theorem gv_8_2 : g_okc cX5_bar gi_8_2 = true := by decide +kernel
def gi_8 : List (List (Nat × Instr × Nat)) := [gi_8_0, gi_8_1, gi_8_2]
theorem gv_8 : ∀ ch ∈ gi_8, g_okc cX5_bar ch = true := List.forall_mem_cons.mpr ⟨gv_8_0, List.forall_mem_cons.mpr ⟨gv_8_1, List.forall_mem_cons.mpr ⟨gv_8_2, fun _ h => absurd h List.not_mem_nil⟩⟩⟩
def gi_9_0 : List (Nat × Instr × Nat) := [(0, .iload_n 1, 1), (1, .iconst 1, 1), (2, .if_icmp .lt 9, 3), (5, .iload_n 1, 1), (6, .bipush 90, 2), (8, .if_icmp .le 13, 3), (11, .new 30, 3), (14, .dup, 1), (15, .ldc 62, 2), (17, .invokespecial 34, 3), (20, .athrow, 1), (21, .iload_n 2, 1), (22, .ifCond .lt 9, 3), (25, .iload_n 2, 1), (26, .bipush 60, 2), (28, .if_icmp .le 13, 3), (31, .new 30, 3)]
set_option maxRecDepth 100000 in
theorem gv_9_0 : g_okc cX5_piece gi_9_0 = true := by decide +kernel
def gi_9_1 : List (Nat × Instr × Nat) := [(34, .dup, 1), (35, .ldc 64, 2), (37, .invokespecial 34, 3), (40, .athrow, 1), (41, .iload_n 3, 1), (42, .ifCond .lt 8, 3), (45, .iload_n 3, 1), (46, .iconst 2, 1), (47, .if_icmp .le 13, 3), (50, .new 30, 3), (53, .dup, 1), (54, .ldc 66, 2), (56, .invokespecial 34, 3), (59, .athrow, 1), (60, .aload_n 0, 1), (61, .getfield 68, 3)]
set_option maxRecDepth 100000 in
theorem gv_9_1 : g_okc cX5_piece gi_9_1 = true := by decide +kernel
def gi_9_2 : List (Nat × Instr × Nat) := [(64, .bipush 10, 2), (66, .if_icmp .lt 13, 3), (69, .new 41, 3), (72, .dup, 1), (73, .ldc 71, 2), (75, .invokespecial 45, 3), (78, .athrow, 1), (79, .aload_n 0, 1), (80, .getfield 21, 3), (83, .aload_n 0, 1), (84, .getfield 68, 3), (87, .aaload, 1), (88, .astore 4, 2), (90, .aload 4, 2), (92, .iload_n 1, 1), (93, .putfield 73, 3)]
set_option maxRecDepth 100000 in
theorem gv_9_2 : g_okc cX5_piece gi_9_2 = true := by decide +kernel
def gi_9_3 : List (Nat × Instr × Nat) := [(96, .aload 4, 2), (98, .iload_n 2, 1), (99, .putfield 76, 3), (102, .aload 4, 2), (104, .iload_n 3, 1), (105, .putfield 79, 3), (108, .aload_n 0, 1), (109, .dup, 1), (110, .getfield 68, 3), (113, .dup_x1, 1), (114, .iconst 1, 1), (115, .iadd, 1), (116, .putfield 68, 3), (119, .ireturn, 1)]
set_option maxRecDepth 100000 in
theorem gv_9_3 : g_okc cX5_piece gi_9_3 = true := by decide +kernel
def gi_9 : List (List (Nat × Instr × Nat)) := [gi_9_0, gi_9_1, gi_9_2, gi_9_3]
theorem gv_9 : ∀ ch ∈ gi_9, g_okc cX5_piece ch = true := List.forall_mem_cons.mpr ⟨gv_9_0, List.forall_mem_cons.mpr ⟨gv_9_1, List.forall_mem_cons.mpr ⟨gv_9_2, List.forall_mem_cons.mpr ⟨gv_9_3, fun _ h => absurd h List.not_mem_nil⟩⟩⟩⟩
def gi_10_0 : List (Nat × Instr × Nat) := [(0, .iload_n 1, 1), (1, .iconst (-1), 1), (2, .if_icmp .lt 9, 3), (5, .iload_n 1, 1), (6, .bipush 6, 2), (8, .if_icmp .lt 13, 3), (11, .new 30, 3), (14, .dup, 1), (15, .ldc 82, 2), (17, .invokespecial 34, 3), (20, .athrow, 1), (21, .aload_n 0, 1), (22, .getfield 10, 3), (25, .getfield 84, 3), (28, .bipush 6, 2), (30, .if_icmp .lt 13, 3)]
set_option maxRecDepth 100000 in
theorem gv_10_0 : g_okc cX5_cue gi_10_0 = true := by decide +kernel
def gi_10_1 : List (Nat × Instr × Nat) := [(33, .new 41, 3), (36, .dup, 1), (37, .ldc 87, 2), (39, .invokespecial 45, 3), (42, .athrow, 1), (43, .aload_n 0, 1), (44, .getfield 10, 3), (47, .getfield 89, 3), (50, .aload_n 0, 1), (51, .getfield 10, 3), (54, .getfield 84, 3), (57, .aaload, 1), (58, .iload_n 1, 1), (59, .putfield 93, 3), (62, .aload_n 0, 1), (63, .getfield 10, 3)]
set_option maxRecDepth 100000 in
theorem gv_10_1 : g_okc cX5_cue gi_10_1 = true := by decide +kernel
def gi_10_2 : List (Nat × Instr × Nat) := [(66, .dup, 1), (67, .getfield 84, 3), (70, .dup_x1, 1), (71, .iconst 1, 1), (72, .iadd, 1), (73, .putfield 84, 3), (76, .ireturn, 1)]
set_option maxRecDepth 100000 in
theorem gv_10_2 : g_okc cX5_cue gi_10_2 = true := by decide +kernel
def gi_10 : List (List (Nat × Instr × Nat)) := [gi_10_0, gi_10_1, gi_10_2]
theorem gv_10 : ∀ ch ∈ gi_10, g_okc cX5_cue ch = true := List.forall_mem_cons.mpr ⟨gv_10_0, List.forall_mem_cons.mpr ⟨gv_10_1, List.forall_mem_cons.mpr ⟨gv_10_2, fun _ h => absurd h List.not_mem_nil⟩⟩⟩
def gi_11_0 : List (Nat × Instr × Nat) := [(0, .iload_n 1, 1), (1, .ifCond .lt 11, 3), (4, .iload_n 1, 1), (5, .aload_n 0, 1), (6, .getfield 44, 3), (9, .if_icmp .lt 13, 3), (12, .new 84, 3), (15, .dup, 1), (16, .ldc 91, 2), (18, .invokespecial 88, 3), (21, .athrow, 1), (22, .aload_n 0, 1), (23, .getfield 32, 3), (26, .iload_n 1, 1), (27, .aaload, 1), (28, .areturn, 1)]
set_option maxRecDepth 100000 in
theorem gv_11_0 : g_okc cX4_cueAt gi_11_0 = true := by decide +kernel
def gi_11 : List (List (Nat × Instr × Nat)) := [gi_11_0]
theorem gv_11 : ∀ ch ∈ gi_11, g_okc cX4_cueAt ch = true := List.forall_mem_cons.mpr ⟨gv_11_0, fun _ h => absurd h List.not_mem_nil⟩
def gi_12_0 : List (Nat × Instr × Nat) := [(0, .iconst 0, 1), (1, .istore_n 1, 1), (2, .iconst 0, 1), (3, .istore_n 2, 1), (4, .iload_n 2, 1), (5, .aload_n 0, 1), (6, .getfield 22, 3), (9, .if_icmp .ge 24, 3), (12, .aload_n 0, 1), (13, .getfield 17, 3), (16, .iload_n 2, 1), (17, .aaload, 1), (18, .getfield 39, 3), (21, .ifCond .ne 6, 3), (24, .iinc 1 1, 3), (27, .iinc 2 1, 3), (30, .goto (-26), 3)]
set_option maxRecDepth 100000 in
theorem gv_12_0 : g_okc cX1_openMoves gi_12_0 = true := by decide +kernel
def gi_12_1 : List (Nat × Instr × Nat) := [(33, .iload_n 1, 1), (34, .ireturn, 1)]
set_option maxRecDepth 100000 in
theorem gv_12_1 : g_okc cX1_openMoves gi_12_1 = true := by decide +kernel
def gi_12 : List (List (Nat × Instr × Nat)) := [gi_12_0, gi_12_1]
theorem gv_12 : ∀ ch ∈ gi_12, g_okc cX1_openMoves ch = true := List.forall_mem_cons.mpr ⟨gv_12_0, List.forall_mem_cons.mpr ⟨gv_12_1, fun _ h => absurd h List.not_mem_nil⟩⟩
def gi_13_0 : List (Nat × Instr × Nat) := [(0, .aload_n 0, 1), (1, .getfield 15, 3), (4, .iconst (-1), 1), (5, .if_icmp .ne 7, 3), (8, .iconst 0, 1), (9, .goto 14, 3), (12, .aload_n 0, 1), (13, .aload_n 0, 1), (14, .getfield 15, 3), (17, .invokevirtual 96, 3), (20, .invokevirtual 103, 3), (23, .ireturn, 1)]
set_option maxRecDepth 100000 in
theorem gv_13_0 : g_okc cX4_openMoves gi_13_0 = true := by decide +kernel
def gi_13 : List (List (Nat × Instr × Nat)) := [gi_13_0]
theorem gv_13 : ∀ ch ∈ gi_13, g_okc cX4_openMoves ch = true := List.forall_mem_cons.mpr ⟨gv_13_0, fun _ h => absurd h List.not_mem_nil⟩
def gi_14_0 : List (Nat × Instr × Nat) := [(0, .iconst 0, 1), (1, .istore_n 1, 1), (2, .iconst 0, 1), (3, .istore_n 2, 1), (4, .iload_n 2, 1), (5, .aload_n 0, 1), (6, .getfield 37, 3), (9, .if_icmp .ge 27, 3), (12, .aload_n 0, 1), (13, .getfield 23, 3), (16, .iload_n 2, 1), (17, .aaload, 1), (18, .getfield 93, 3), (21, .ifCond .eq 9, 3), (24, .iload_n 1, 1), (25, .iconst 1, 1), (26, .iload_n 2, 1), (27, .ishl, 1), (28, .ior, 1), (29, .istore_n 1, 1), (30, .iinc 2 1, 3)]
set_option maxRecDepth 100000 in
theorem gv_14_0 : g_okc cX4_brokenBrakes gi_14_0 = true := by decide +kernel
def gi_14_1 : List (Nat × Instr × Nat) := [(33, .goto (-29), 3), (36, .iload_n 1, 1), (37, .ireturn, 1)]
set_option maxRecDepth 100000 in
theorem gv_14_1 : g_okc cX4_brokenBrakes gi_14_1 = true := by decide +kernel
def gi_14 : List (List (Nat × Instr × Nat)) := [gi_14_0, gi_14_1]
theorem gv_14 : ∀ ch ∈ gi_14, g_okc cX4_brokenBrakes ch = true := List.forall_mem_cons.mpr ⟨gv_14_0, List.forall_mem_cons.mpr ⟨gv_14_1, fun _ h => absurd h List.not_mem_nil⟩⟩
def gi_15_0 : List (Nat × Instr × Nat) := [(0, .iload_n 1, 1), (1, .tableswitch 212 0 15 #[79, 87, 95, 100, 108, 116, 124, 140, 148, 156, 164, 172, 180, 188, 196, 204], 79)]
set_option maxRecDepth 100000 in
theorem gv_15_0 : g_okc cX5_many gi_15_0 = true := by decide +kernel
def gi_15_1 : List (Nat × Instr × Nat) := []
set_option maxRecDepth 100000 in
theorem gv_15_1 : g_okc cX5_many gi_15_1 = true := by decide +kernel
def gi_15_2 : List (Nat × Instr × Nat) := [(80, .aload_n 0, 1), (81, .getfield 10, 3), (84, .getfield 212, 3), (87, .ireturn, 1), (88, .aload_n 0, 1), (89, .getfield 10, 3), (92, .getfield 37, 3), (95, .ireturn, 1)]
set_option maxRecDepth 100000 in
theorem gv_15_2 : g_okc cX5_many gi_15_2 = true := by decide +kernel
def gi_15_3 : List (Nat × Instr × Nat) := [(96, .aload_n 0, 1), (97, .getfield 68, 3), (100, .ireturn, 1), (101, .aload_n 0, 1), (102, .getfield 10, 3), (105, .getfield 84, 3), (108, .ireturn, 1), (109, .aload_n 0, 1), (110, .getfield 10, 3), (113, .getfield 148, 3), (116, .ireturn, 1), (117, .aload_n 0, 1), (118, .getfield 10, 3), (121, .getfield 112, 3), (124, .ireturn, 1), (125, .aload_n 0, 1), (126, .getfield 10, 3)]
set_option maxRecDepth 100000 in
theorem gv_15_3 : g_okc cX5_many gi_15_3 = true := by decide +kernel
def gi_15_4 : List (Nat × Instr × Nat) := [(129, .getfield 198, 3), (132, .ifCond .eq 7, 3), (135, .iconst 1, 1), (136, .goto 4, 3), (139, .iconst 0, 1), (140, .ireturn, 1), (141, .aload_n 0, 1), (142, .getfield 10, 3), (145, .getfield 255, 3), (148, .ireturn, 1), (149, .aload_n 0, 1), (150, .getfield 10, 3), (153, .invokevirtual 201, 3), (156, .ireturn, 1), (157, .aload_n 0, 1), (158, .getfield 10, 3)]
set_option maxRecDepth 100000 in
theorem gv_15_4 : g_okc cX5_many gi_15_4 = true := by decide +kernel
def gi_15_5 : List (Nat × Instr × Nat) := [(161, .getfield 258, 3), (164, .ireturn, 1), (165, .aload_n 0, 1), (166, .getfield 10, 3), (169, .getfield 261, 3), (172, .ireturn, 1), (173, .aload_n 0, 1), (174, .getfield 10, 3), (177, .getfield 264, 3), (180, .ireturn, 1), (181, .aload_n 0, 1), (182, .getfield 10, 3), (185, .getfield 267, 3), (188, .ireturn, 1), (189, .aload_n 0, 1), (190, .getfield 10, 3)]
set_option maxRecDepth 100000 in
theorem gv_15_5 : g_okc cX5_many gi_15_5 = true := by decide +kernel
def gi_15_6 : List (Nat × Instr × Nat) := [(193, .getfield 270, 3), (196, .ireturn, 1), (197, .aload_n 0, 1), (198, .getfield 10, 3), (201, .getfield 273, 3), (204, .ireturn, 1), (205, .aload_n 0, 1), (206, .getfield 10, 3), (209, .invokevirtual 274, 3), (212, .ireturn, 1), (213, .new 30, 3), (216, .dup, 1), (217, .ldc_w 277, 3), (220, .invokespecial 34, 3), (223, .athrow, 1)]
set_option maxRecDepth 100000 in
theorem gv_15_6 : g_okc cX5_many gi_15_6 = true := by decide +kernel
def gi_15 : List (List (Nat × Instr × Nat)) := [gi_15_0, gi_15_1, gi_15_2, gi_15_3, gi_15_4, gi_15_5, gi_15_6]
theorem gv_15 : ∀ ch ∈ gi_15, g_okc cX5_many ch = true := List.forall_mem_cons.mpr ⟨gv_15_0, List.forall_mem_cons.mpr ⟨gv_15_1, List.forall_mem_cons.mpr ⟨gv_15_2, List.forall_mem_cons.mpr ⟨gv_15_3, List.forall_mem_cons.mpr ⟨gv_15_4, List.forall_mem_cons.mpr ⟨gv_15_5, List.forall_mem_cons.mpr ⟨gv_15_6, fun _ h => absurd h List.not_mem_nil⟩⟩⟩⟩⟩⟩⟩
def gi_16_0 : List (Nat × Instr × Nat) := [(0, .iload_n 1, 1), (1, .ifCond .lt 11, 3), (4, .iload_n 1, 1), (5, .aload_n 0, 1), (6, .getfield 37, 3), (9, .if_icmp .lt 13, 3), (12, .new 84, 3), (15, .dup, 1), (16, .ldc 86, 2), (18, .invokespecial 88, 3), (21, .athrow, 1), (22, .aload_n 0, 1), (23, .getfield 23, 3), (26, .iload_n 1, 1), (27, .aaload, 1), (28, .areturn, 1)]
set_option maxRecDepth 100000 in
theorem gv_16_0 : g_okc cX4_barAt gi_16_0 = true := by decide +kernel
def gi_16 : List (List (Nat × Instr × Nat)) := [gi_16_0]
theorem gv_16 : ∀ ch ∈ gi_16, g_okc cX4_barAt ch = true := List.forall_mem_cons.mpr ⟨gv_16_0, fun _ h => absurd h List.not_mem_nil⟩
def gi_17_0 : List (Nat × Instr × Nat) := [(0, .aload_n 0, 1), (1, .getfield 17, 3), (4, .ifCond .eq 7, 3), (7, .iconst 0, 1), (8, .goto 12, 3), (11, .aload_n 0, 1), (12, .getfield 29, 3), (15, .aload_n 0, 1), (16, .getfield 26, 3), (19, .isub, 1), (20, .ireturn, 1)]
set_option maxRecDepth 100000 in
theorem gv_17_0 : g_okc cX0_difference gi_17_0 = true := by decide +kernel
def gi_17 : List (List (Nat × Instr × Nat)) := [gi_17_0]
theorem gv_17 : ∀ ch ∈ gi_17, g_okc cX0_difference ch = true := List.forall_mem_cons.mpr ⟨gv_17_0, fun _ h => absurd h List.not_mem_nil⟩
def gi_18_0 : List (Nat × Instr × Nat) := [(0, .aload_n 0, 1), (1, .getfield 10, 3), (4, .iload_n 1, 1), (5, .invokevirtual 102, 3), (8, .astore_n 3, 1), (9, .iload_n 2, 1), (10, .tableswitch 154 0 11 #[62, 75, 80, 85, 90, 95, 100, 105, 110, 123, 136, 149], 62)]
set_option maxRecDepth 100000 in
theorem gv_18_0 : g_okc cX5_ofBar gi_18_0 = true := by decide +kernel
def gi_18_1 : List (Nat × Instr × Nat) := []
set_option maxRecDepth 100000 in
theorem gv_18_1 : g_okc cX5_ofBar gi_18_1 = true := by decide +kernel
def gi_18_2 : List (Nat × Instr × Nat) := [(72, .aload_n 3, 1), (73, .getfield 50, 3), (76, .ifCond .eq 7, 3), (79, .iconst 1, 1), (80, .goto 4, 3), (83, .iconst 0, 1), (84, .ireturn, 1), (85, .aload_n 3, 1), (86, .getfield 56, 3), (89, .ireturn, 1), (90, .aload_n 3, 1), (91, .getfield 223, 3), (94, .ireturn, 1), (95, .aload_n 3, 1)]
set_option maxRecDepth 100000 in
theorem gv_18_2 : g_okc cX5_ofBar gi_18_2 = true := by decide +kernel
def gi_18_3 : List (Nat × Instr × Nat) := [(96, .getfield 182, 3), (99, .ireturn, 1), (100, .aload_n 3, 1), (101, .getfield 168, 3), (104, .ireturn, 1), (105, .aload_n 3, 1), (106, .getfield 226, 3), (109, .ireturn, 1), (110, .aload_n 3, 1), (111, .getfield 229, 3), (114, .ireturn, 1), (115, .aload_n 3, 1), (116, .invokevirtual 185, 3), (119, .ireturn, 1), (120, .aload_n 3, 1), (121, .getfield 151, 3), (124, .ifCond .eq 7, 3), (127, .iconst 1, 1)]
set_option maxRecDepth 100000 in
theorem gv_18_3 : g_okc cX5_ofBar gi_18_3 = true := by decide +kernel
def gi_18_4 : List (Nat × Instr × Nat) := [(128, .goto 4, 3), (131, .iconst 0, 1), (132, .ireturn, 1), (133, .aload_n 3, 1), (134, .getfield 154, 3), (137, .ifCond .eq 7, 3), (140, .iconst 1, 1), (141, .goto 4, 3), (144, .iconst 0, 1), (145, .ireturn, 1), (146, .aload_n 3, 1), (147, .getfield 207, 3), (150, .ifCond .eq 7, 3), (153, .iconst 1, 1), (154, .goto 4, 3), (157, .iconst 0, 1), (158, .ireturn, 1), (159, .aload_n 3, 1)]
set_option maxRecDepth 100000 in
theorem gv_18_4 : g_okc cX5_ofBar gi_18_4 = true := by decide +kernel
def gi_18_5 : List (Nat × Instr × Nat) := [(160, .getfield 232, 3), (163, .ireturn, 1), (164, .new 30, 3), (167, .dup, 1), (168, .ldc 235, 2), (170, .invokespecial 34, 3), (173, .athrow, 1)]
set_option maxRecDepth 100000 in
theorem gv_18_5 : g_okc cX5_ofBar gi_18_5 = true := by decide +kernel
def gi_18 : List (List (Nat × Instr × Nat)) := [gi_18_0, gi_18_1, gi_18_2, gi_18_3, gi_18_4, gi_18_5]
theorem gv_18 : ∀ ch ∈ gi_18, g_okc cX5_ofBar ch = true := List.forall_mem_cons.mpr ⟨gv_18_0, List.forall_mem_cons.mpr ⟨gv_18_1, List.forall_mem_cons.mpr ⟨gv_18_2, List.forall_mem_cons.mpr ⟨gv_18_3, List.forall_mem_cons.mpr ⟨gv_18_4, List.forall_mem_cons.mpr ⟨gv_18_5, fun _ h => absurd h List.not_mem_nil⟩⟩⟩⟩⟩⟩
def gi_19_0 : List (Nat × Instr × Nat) := [(0, .iload_n 1, 1), (1, .ifCond .lt 11, 3), (4, .iload_n 1, 1), (5, .aload_n 0, 1), (6, .getfield 68, 3), (9, .if_icmp .lt 14, 3), (12, .new 329, 3), (15, .dup, 1), (16, .ldc_w 331, 3), (19, .invokespecial 333, 3), (22, .athrow, 1), (23, .aload_n 0, 1), (24, .getfield 21, 3), (27, .iload_n 1, 1), (28, .aaload, 1), (29, .areturn, 1)]
set_option maxRecDepth 100000 in
theorem gv_19_0 : g_okc cX5_pieceAt gi_19_0 = true := by decide +kernel
def gi_19 : List (List (Nat × Instr × Nat)) := [gi_19_0]
theorem gv_19 : ∀ ch ∈ gi_19, g_okc cX5_pieceAt ch = true := List.forall_mem_cons.mpr ⟨gv_19_0, fun _ h => absurd h List.not_mem_nil⟩
def gi_20_0 : List (Nat × Instr × Nat) := [(0, .aload_n 0, 1), (1, .iload_n 1, 1), (2, .invokevirtual 157, 3), (5, .astore_n 3, 1), (6, .iload_n 2, 1), (7, .tableswitch 49 0 3 #[29, 34, 39, 44], 29)]
set_option maxRecDepth 100000 in
theorem gv_20_0 : g_okc cX5_ofPiece gi_20_0 = true := by decide +kernel
def gi_20_1 : List (Nat × Instr × Nat) := [(36, .aload_n 3, 1), (37, .getfield 73, 3), (40, .ireturn, 1), (41, .aload_n 3, 1), (42, .getfield 76, 3), (45, .ireturn, 1), (46, .aload_n 3, 1), (47, .getfield 79, 3), (50, .ireturn, 1), (51, .aload_n 3, 1), (52, .getfield 161, 3), (55, .ireturn, 1), (56, .new 30, 3), (59, .dup, 1), (60, .ldc 237, 2), (62, .invokespecial 34, 3)]
set_option maxRecDepth 100000 in
theorem gv_20_1 : g_okc cX5_ofPiece gi_20_1 = true := by decide +kernel
def gi_20_2 : List (Nat × Instr × Nat) := [(65, .athrow, 1)]
set_option maxRecDepth 100000 in
theorem gv_20_2 : g_okc cX5_ofPiece gi_20_2 = true := by decide +kernel
def gi_20 : List (List (Nat × Instr × Nat)) := [gi_20_0, gi_20_1, gi_20_2]
theorem gv_20 : ∀ ch ∈ gi_20, g_okc cX5_ofPiece ch = true := List.forall_mem_cons.mpr ⟨gv_20_0, List.forall_mem_cons.mpr ⟨gv_20_1, List.forall_mem_cons.mpr ⟨gv_20_2, fun _ h => absurd h List.not_mem_nil⟩⟩⟩
def gi_21_0 : List (Nat × Instr × Nat) := [(0, .aload_n 0, 1), (1, .getfield 10, 3), (4, .getfield 112, 3), (7, .iconst (-1), 1), (8, .if_icmp .eq 13, 3), (11, .new 41, 3), (14, .dup, 1), (15, .ldc 189, 2), (17, .invokespecial 45, 3), (20, .athrow, 1), (21, .aload_n 1, 1), (22, .getfield 223, 3), (25, .ifCond .le 14, 3), (28, .new 41, 3), (31, .dup, 1)]
set_option maxRecDepth 100000 in
theorem gv_21_0 : g_okc cX5_refuseUnlessAtRest gi_21_0 = true := by decide +kernel
def gi_21_1 : List (Nat × Instr × Nat) := [(32, .ldc_w 336, 3), (35, .invokespecial 45, 3), (38, .athrow, 1), (39, .return_, 1)]
set_option maxRecDepth 100000 in
theorem gv_21_1 : g_okc cX5_refuseUnlessAtRest gi_21_1 = true := by decide +kernel
def gi_21 : List (List (Nat × Instr × Nat)) := [gi_21_0, gi_21_1]
theorem gv_21 : ∀ ch ∈ gi_21, g_okc cX5_refuseUnlessAtRest ch = true := List.forall_mem_cons.mpr ⟨gv_21_0, List.forall_mem_cons.mpr ⟨gv_21_1, fun _ h => absurd h List.not_mem_nil⟩⟩
def gi_22_0 : List (Nat × Instr × Nat) := [(0, .aload_n 1, 1), (1, .iconst 0, 1), (2, .putfield 168, 3), (5, .aload_n 1, 1), (6, .iconst 0, 1), (7, .putfield 226, 3), (10, .aload_n 1, 1), (11, .iconst 0, 1), (12, .putfield 229, 3), (15, .iconst 0, 1), (16, .istore_n 2, 1), (17, .iload_n 2, 1), (18, .aload_n 0, 1), (19, .getfield 68, 3), (22, .if_icmp .ge 70, 3), (25, .aload_n 0, 1), (26, .getfield 21, 3), (29, .iload_n 2, 1), (30, .aaload, 1), (31, .astore_n 3, 1)]
set_option maxRecDepth 100000 in
theorem gv_22_0 : g_okc cX5_weigh gi_22_0 = true := by decide +kernel
def gi_22_1 : List (Nat × Instr × Nat) := [(32, .aload_n 3, 1), (33, .getfield 161, 3), (36, .aload_n 1, 1), (37, .getfield 59, 3), (40, .if_icmp .ne 46, 3), (43, .aload_n 1, 1), (44, .dup, 1), (45, .getfield 168, 3), (48, .aload_n 3, 1), (49, .getfield 73, 3), (52, .iadd, 1), (53, .putfield 168, 3), (56, .aload_n 1, 1), (57, .aload_n 1, 1), (58, .getfield 226, 3), (61, .aload_n 3, 1), (62, .getfield 76, 3)]
set_option maxRecDepth 100000 in
theorem gv_22_1 : g_okc cX5_weigh gi_22_1 = true := by decide +kernel
def gi_22_2 : List (Nat × Instr × Nat) := [(65, .invokestatic 338, 3), (68, .putfield 226, 3), (71, .aload_n 1, 1), (72, .aload_n 1, 1), (73, .getfield 229, 3), (76, .aload_n 3, 1), (77, .getfield 79, 3), (80, .invokestatic 338, 3), (83, .putfield 229, 3), (86, .iinc 2 1, 3), (89, .goto (-72), 3), (92, .return_, 1)]
set_option maxRecDepth 100000 in
theorem gv_22_2 : g_okc cX5_weigh gi_22_2 = true := by decide +kernel
def gi_22 : List (List (Nat × Instr × Nat)) := [gi_22_0, gi_22_1, gi_22_2]
theorem gv_22 : ∀ ch ∈ gi_22, g_okc cX5_weigh ch = true := List.forall_mem_cons.mpr ⟨gv_22_0, List.forall_mem_cons.mpr ⟨gv_22_1, List.forall_mem_cons.mpr ⟨gv_22_2, fun _ h => absurd h List.not_mem_nil⟩⟩⟩
def gi_23_0 : List (Nat × Instr × Nat) := [(0, .aload_n 0, 1), (1, .iload_n 1, 1), (2, .invokevirtual 157, 3), (5, .astore_n 3, 1), (6, .aload_n 0, 1), (7, .getfield 10, 3), (10, .iload_n 2, 1), (11, .invokevirtual 102, 3), (14, .astore 4, 2), (16, .aload_n 3, 1), (17, .getfield 161, 3), (20, .iconst (-1), 1), (21, .if_icmp .eq 13, 3), (24, .new 41, 3), (27, .dup, 1), (28, .ldc 162, 2), (30, .invokespecial 45, 3)]
set_option maxRecDepth 100000 in
theorem gv_23_0 : g_okc cX5_hang gi_23_0 = true := by decide +kernel
def gi_23_1 : List (Nat × Instr × Nat) := [(33, .athrow, 1), (34, .aload_n 0, 1), (35, .aload 4, 2), (37, .invokevirtual 164, 3), (40, .aload 4, 2), (42, .getfield 168, 3), (45, .aload_n 3, 1), (46, .getfield 73, 3), (49, .iadd, 1), (50, .aload 4, 2), (52, .getfield 56, 3), (55, .if_icmp .le 13, 3), (58, .new 41, 3), (61, .dup, 1), (62, .ldc 171, 2)]
set_option maxRecDepth 100000 in
theorem gv_23_1 : g_okc cX5_hang gi_23_1 = true := by decide +kernel
def gi_23_2 : List (Nat × Instr × Nat) := [(64, .invokespecial 45, 3), (67, .athrow, 1), (68, .aload_n 3, 1), (69, .aload 4, 2), (71, .getfield 59, 3), (74, .putfield 161, 3), (77, .aload_n 0, 1), (78, .aload 4, 2), (80, .invokevirtual 173, 3), (83, .aload 4, 2), (85, .getfield 168, 3), (88, .ireturn, 1)]
set_option maxRecDepth 100000 in
theorem gv_23_2 : g_okc cX5_hang gi_23_2 = true := by decide +kernel
def gi_23 : List (List (Nat × Instr × Nat)) := [gi_23_0, gi_23_1, gi_23_2]
theorem gv_23 : ∀ ch ∈ gi_23, g_okc cX5_hang ch = true := List.forall_mem_cons.mpr ⟨gv_23_0, List.forall_mem_cons.mpr ⟨gv_23_1, List.forall_mem_cons.mpr ⟨gv_23_2, fun _ h => absurd h List.not_mem_nil⟩⟩⟩
def gi_24_0 : List (Nat × Instr × Nat) := [(0, .aload_n 0, 1), (1, .iload_n 1, 1), (2, .invokevirtual 157, 3), (5, .astore_n 2, 1), (6, .aload_n 2, 1), (7, .getfield 161, 3), (10, .iconst (-1), 1), (11, .if_icmp .ne 13, 3), (14, .new 41, 3), (17, .dup, 1), (18, .ldc 176, 2), (20, .invokespecial 45, 3), (23, .athrow, 1), (24, .aload_n 0, 1), (25, .getfield 10, 3), (28, .aload_n 2, 1), (29, .getfield 161, 3)]
set_option maxRecDepth 100000 in
theorem gv_24_0 : g_okc cX5_take gi_24_0 = true := by decide +kernel
def gi_24_1 : List (Nat × Instr × Nat) := [(32, .invokevirtual 102, 3), (35, .astore_n 3, 1), (36, .aload_n 0, 1), (37, .aload_n 3, 1), (38, .invokevirtual 164, 3), (41, .aload_n 2, 1), (42, .iconst (-1), 1), (43, .putfield 161, 3), (46, .aload_n 0, 1), (47, .aload_n 3, 1), (48, .invokevirtual 173, 3), (51, .aload_n 3, 1), (52, .getfield 59, 3), (55, .ireturn, 1)]
set_option maxRecDepth 100000 in
theorem gv_24_1 : g_okc cX5_take gi_24_1 = true := by decide +kernel
def gi_24 : List (List (Nat × Instr × Nat)) := [gi_24_0, gi_24_1]
theorem gv_24 : ∀ ch ∈ gi_24, g_okc cX5_take ch = true := List.forall_mem_cons.mpr ⟨gv_24_0, List.forall_mem_cons.mpr ⟨gv_24_1, fun _ h => absurd h List.not_mem_nil⟩⟩
def gi_25_0 : List (Nat × Instr × Nat) := [(0, .aload_n 0, 1), (1, .getfield 10, 3), (4, .iload_n 1, 1), (5, .invokevirtual 102, 3), (8, .astore_n 3, 1), (9, .iload_n 2, 1), (10, .ifCond .lt 10, 3), (13, .iload_n 2, 1), (14, .sipush 300, 3), (17, .if_icmp .le 13, 3), (20, .new 30, 3), (23, .dup, 1), (24, .ldc 178, 2), (26, .invokespecial 34, 3), (29, .athrow, 1), (30, .aload_n 3, 1), (31, .getfield 50, 3)]
set_option maxRecDepth 100000 in
theorem gv_25_0 : g_okc cX5_counter gi_25_0 = true := by decide +kernel
def gi_25_1 : List (Nat × Instr × Nat) := [(34, .ifCond .eq 13, 3), (37, .new 41, 3), (40, .dup, 1), (41, .ldc 180, 2), (43, .invokespecial 45, 3), (46, .athrow, 1), (47, .aload_n 0, 1), (48, .aload_n 3, 1), (49, .invokevirtual 164, 3), (52, .aload_n 3, 1), (53, .iload_n 2, 1), (54, .putfield 182, 3), (57, .aload_n 3, 1), (58, .invokevirtual 185, 3), (61, .ireturn, 1)]
set_option maxRecDepth 100000 in
theorem gv_25_1 : g_okc cX5_counter gi_25_1 = true := by decide +kernel
def gi_25 : List (List (Nat × Instr × Nat)) := [gi_25_0, gi_25_1]
theorem gv_25 : ∀ ch ∈ gi_25, g_okc cX5_counter ch = true := List.forall_mem_cons.mpr ⟨gv_25_0, List.forall_mem_cons.mpr ⟨gv_25_1, fun _ h => absurd h List.not_mem_nil⟩⟩
def gi_26_0 : List (Nat × Instr × Nat) := [(0, .iload_n 1, 1), (1, .ifCond .lt 11, 3), (4, .iload_n 1, 1), (5, .aload_n 0, 1), (6, .getfield 22, 3), (9, .if_icmp .lt 13, 3), (12, .new 29, 3), (15, .dup, 1), (16, .ldc 31, 2), (18, .invokespecial 33, 3), (21, .athrow, 1), (22, .aload_n 0, 1), (23, .getfield 17, 3), (26, .iload_n 1, 1), (27, .aaload, 1), (28, .areturn, 1)]
set_option maxRecDepth 100000 in
theorem gv_26_0 : g_okc cX1_moveAt gi_26_0 = true := by decide +kernel
def gi_26 : List (List (Nat × Instr × Nat)) := [gi_26_0]
theorem gv_26 : ∀ ch ∈ gi_26, g_okc cX1_moveAt ch = true := List.forall_mem_cons.mpr ⟨gv_26_0, fun _ h => absurd h List.not_mem_nil⟩
def gi_27_0 : List (Nat × Instr × Nat) := [(0, .aload_n 0, 1), (1, .getfield 10, 3), (4, .iload_n 1, 1), (5, .invokevirtual 98, 3), (8, .iload_n 2, 1), (9, .invokevirtual 239, 3), (12, .astore 4, 2), (14, .iload_n 3, 1), (15, .tableswitch 73 0 5 #[37, 43, 49, 55, 61, 67], 37)]
set_option maxRecDepth 100000 in
theorem gv_27_0 : g_okc cX5_ofMove gi_27_0 = true := by decide +kernel
def gi_27_1 : List (Nat × Instr × Nat) := [(52, .aload 4, 2), (54, .getfield 132, 3), (57, .ireturn, 1), (58, .aload 4, 2), (60, .getfield 137, 3), (63, .ireturn, 1)]
set_option maxRecDepth 100000 in
theorem gv_27_1 : g_okc cX5_ofMove gi_27_1 = true := by decide +kernel
def gi_27_2 : List (Nat × Instr × Nat) := [(64, .aload 4, 2), (66, .getfield 140, 3), (69, .ireturn, 1), (70, .aload 4, 2), (72, .getfield 143, 3), (75, .ireturn, 1), (76, .aload 4, 2), (78, .getfield 243, 3), (81, .ireturn, 1), (82, .aload 4, 2), (84, .getfield 246, 3), (87, .ireturn, 1), (88, .new 30, 3), (91, .dup, 1), (92, .ldc 249, 2), (94, .invokespecial 34, 3)]
set_option maxRecDepth 100000 in
theorem gv_27_2 : g_okc cX5_ofMove gi_27_2 = true := by decide +kernel
def gi_27_3 : List (Nat × Instr × Nat) := [(97, .athrow, 1)]
set_option maxRecDepth 100000 in
theorem gv_27_3 : g_okc cX5_ofMove gi_27_3 = true := by decide +kernel
def gi_27 : List (List (Nat × Instr × Nat)) := [gi_27_0, gi_27_1, gi_27_2, gi_27_3]
theorem gv_27 : ∀ ch ∈ gi_27, g_okc cX5_ofMove ch = true := List.forall_mem_cons.mpr ⟨gv_27_0, List.forall_mem_cons.mpr ⟨gv_27_1, List.forall_mem_cons.mpr ⟨gv_27_2, List.forall_mem_cons.mpr ⟨gv_27_3, fun _ h => absurd h List.not_mem_nil⟩⟩⟩⟩
def gi_28_0 : List (Nat × Instr × Nat) := [(0, .iconst 0, 1), (1, .istore_n 2, 1), (2, .iload_n 2, 1), (3, .bipush 6, 2), (5, .if_icmp .ge 27, 3), (8, .aload_n 0, 1), (9, .iload_n 1, 1), (10, .iload_n 2, 1), (11, .iconst 0, 1), (12, .invokevirtual 65, 3), (15, .ifCond .ge 5, 3), (18, .iconst (-1), 1), (19, .ireturn, 1), (20, .goto 6, 3), (23, .astore_n 3, 1), (24, .iload_n 2, 1), (25, .ireturn, 1), (26, .iinc 2 1, 3), (29, .goto (-27), 3)]
set_option maxRecDepth 100000 in
theorem gv_28_0 : g_okc cL_moves gi_28_0 = true := by decide +kernel
def gi_28_1 : List (Nat × Instr × Nat) := [(32, .bipush 6, 2), (34, .ireturn, 1)]
set_option maxRecDepth 100000 in
theorem gv_28_1 : g_okc cL_moves gi_28_1 = true := by decide +kernel
def gi_28 : List (List (Nat × Instr × Nat)) := [gi_28_0, gi_28_1]
theorem gv_28 : ∀ ch ∈ gi_28, g_okc cL_moves ch = true := List.forall_mem_cons.mpr ⟨gv_28_0, List.forall_mem_cons.mpr ⟨gv_28_1, fun _ h => absurd h List.not_mem_nil⟩⟩
def gi_29_0 : List (Nat × Instr × Nat) := [(0, .iconst 0, 1), (1, .istore_n 2, 1), (2, .iload_n 2, 1), (3, .aload_n 0, 1), (4, .getfield 22, 3), (7, .if_icmp .ge 24, 3), (10, .aload_n 0, 1), (11, .getfield 17, 3), (14, .iload_n 2, 1), (15, .aaload, 1), (16, .getfield 36, 3), (19, .iload_n 1, 1), (20, .if_icmp .ne 5, 3), (23, .iconst 1, 1), (24, .ireturn, 1), (25, .iinc 2 1, 3), (28, .goto (-26), 3), (31, .iconst 0, 1)]
set_option maxRecDepth 100000 in
theorem gv_29_0 : g_okc cX1_hasMoveOf gi_29_0 = true := by decide +kernel
def gi_29_1 : List (Nat × Instr × Nat) := [(32, .ireturn, 1)]
set_option maxRecDepth 100000 in
theorem gv_29_1 : g_okc cX1_hasMoveOf gi_29_1 = true := by decide +kernel
def gi_29 : List (List (Nat × Instr × Nat)) := [gi_29_0, gi_29_1]
theorem gv_29 : ∀ ch ∈ gi_29, g_okc cX1_hasMoveOf ch = true := List.forall_mem_cons.mpr ⟨gv_29_0, List.forall_mem_cons.mpr ⟨gv_29_1, fun _ h => absurd h List.not_mem_nil⟩⟩
def gi_30_0 : List (Nat × Instr × Nat) := [(0, .aload_n 0, 1), (1, .getfield 10, 3), (4, .iload_n 1, 1), (5, .invokevirtual 98, 3), (8, .astore 6, 2), (10, .aload_n 0, 1), (11, .getfield 10, 3), (14, .iload_n 2, 1), (15, .invokevirtual 102, 3), (18, .astore 7, 2), (20, .iload_n 3, 1), (21, .ifCond .lt 9, 3), (24, .iload_n 3, 1), (25, .bipush 120, 2), (27, .if_icmp .le 13, 3), (30, .new 30, 3)]
set_option maxRecDepth 100000 in
theorem gv_30_0 : g_okc cX5_move gi_30_0 = true := by decide +kernel
def gi_30_1 : List (Nat × Instr × Nat) := [(33, .dup, 1), (34, .ldc 106, 2), (36, .invokespecial 34, 3), (39, .athrow, 1), (40, .iload 4, 2), (42, .iconst 1, 1), (43, .if_icmp .lt 10, 3), (46, .iload 4, 2), (48, .bipush 6, 2), (50, .if_icmp .le 13, 3), (53, .new 30, 3), (56, .dup, 1), (57, .ldc 108, 2), (59, .invokespecial 34, 3), (62, .athrow, 1), (63, .iload 5, 2)]
set_option maxRecDepth 100000 in
theorem gv_30_1 : g_okc cX5_move gi_30_1 = true := by decide +kernel
def gi_30_2 : List (Nat × Instr × Nat) := [(65, .ifCond .lt 10, 3), (68, .iload 5, 2), (70, .bipush 20, 2), (72, .if_icmp .le 13, 3), (75, .new 30, 3), (78, .dup, 1), (79, .ldc 110, 2), (81, .invokespecial 34, 3), (84, .athrow, 1), (85, .aload_n 0, 1), (86, .getfield 10, 3), (89, .getfield 112, 3), (92, .iload_n 1, 1), (93, .if_icmp .ne 13, 3)]
set_option maxRecDepth 100000 in
theorem gv_30_2 : g_okc cX5_move gi_30_2 = true := by decide +kernel
def gi_30_3 : List (Nat × Instr × Nat) := [(96, .new 41, 3), (99, .dup, 1), (100, .ldc 115, 2), (102, .invokespecial 45, 3), (105, .athrow, 1), (106, .aload 6, 2), (108, .getfield 117, 3), (111, .bipush 6, 2), (113, .if_icmp .lt 13, 3), (116, .new 41, 3), (119, .dup, 1), (120, .ldc 120, 2), (122, .invokespecial 45, 3), (125, .athrow, 1), (126, .aload 6, 2)]
set_option maxRecDepth 100000 in
theorem gv_30_3 : g_okc cX5_move gi_30_3 = true := by decide +kernel
def gi_30_4 : List (Nat × Instr × Nat) := [(128, .aload 7, 2), (130, .getfield 59, 3), (133, .invokevirtual 122, 3), (136, .ifCond .eq 13, 3), (139, .new 41, 3), (142, .dup, 1), (143, .ldc 126, 2), (145, .invokespecial 45, 3), (148, .athrow, 1), (149, .aload 6, 2), (151, .getfield 128, 3), (154, .aload 6, 2), (156, .getfield 117, 3), (159, .aaload, 1)]
set_option maxRecDepth 100000 in
theorem gv_30_4 : g_okc cX5_move gi_30_4 = true := by decide +kernel
def gi_30_5 : List (Nat × Instr × Nat) := [(160, .astore 8, 2), (162, .aload 8, 2), (164, .aload 7, 2), (166, .getfield 59, 3), (169, .putfield 132, 3), (172, .aload 8, 2), (174, .iload_n 3, 1), (175, .putfield 137, 3), (178, .aload 8, 2), (180, .iload 4, 2), (182, .putfield 140, 3), (185, .aload 8, 2), (187, .iload 5, 2), (189, .putfield 143, 3)]
set_option maxRecDepth 100000 in
theorem gv_30_5 : g_okc cX5_move gi_30_5 = true := by decide +kernel
def gi_30_6 : List (Nat × Instr × Nat) := [(192, .aload 6, 2), (194, .dup, 1), (195, .getfield 117, 3), (198, .dup_x1, 1), (199, .iconst 1, 1), (200, .iadd, 1), (201, .putfield 117, 3), (204, .ireturn, 1)]
set_option maxRecDepth 100000 in
theorem gv_30_6 : g_okc cX5_move gi_30_6 = true := by decide +kernel
def gi_30 : List (List (Nat × Instr × Nat)) := [gi_30_0, gi_30_1, gi_30_2, gi_30_3, gi_30_4, gi_30_5, gi_30_6]
theorem gv_30 : ∀ ch ∈ gi_30, g_okc cX5_move ch = true := List.forall_mem_cons.mpr ⟨gv_30_0, List.forall_mem_cons.mpr ⟨gv_30_1, List.forall_mem_cons.mpr ⟨gv_30_2, List.forall_mem_cons.mpr ⟨gv_30_3, List.forall_mem_cons.mpr ⟨gv_30_4, List.forall_mem_cons.mpr ⟨gv_30_5, List.forall_mem_cons.mpr ⟨gv_30_6, fun _ h => absurd h List.not_mem_nil⟩⟩⟩⟩⟩⟩⟩
def gi_31_0 : List (Nat × Instr × Nat) := [(0, .aload_n 0, 1), (1, .iload_n 1, 1), (2, .iload_n 2, 1), (3, .iload_n 3, 1), (4, .iload 4, 2), (6, .iload 5, 2), (8, .invokevirtual 102, 3), (11, .ireturn, 1), (12, .astore 6, 2), (14, .iconst (-1), 1), (15, .ireturn, 1)]
set_option maxRecDepth 100000 in
theorem gv_31_0 : g_okc cL_move gi_31_0 = true := by decide +kernel
def gi_31 : List (List (Nat × Instr × Nat)) := [gi_31_0]
theorem gv_31 : ∀ ch ∈ gi_31, g_okc cL_move ch = true := List.forall_mem_cons.mpr ⟨gv_31_0, fun _ h => absurd h List.not_mem_nil⟩
def gi_32_0 : List (Nat × Instr × Nat) := [(0, .iload_n 1, 1), (1, .ifCond .lt 8, 3), (4, .iload_n 1, 1), (5, .iconst 5, 1), (6, .if_icmp .le 13, 3), (9, .new 30, 3), (12, .dup, 1), (13, .ldc 146, 2), (15, .invokespecial 34, 3), (18, .athrow, 1), (19, .aload_n 0, 1), (20, .getfield 10, 3), (23, .getfield 148, 3), (26, .istore_n 2, 1), (27, .aload_n 0, 1), (28, .getfield 10, 3), (31, .iload_n 1, 1)]
set_option maxRecDepth 100000 in
theorem gv_32_0 : g_okc cX5_crew gi_32_0 = true := by decide +kernel
def gi_32_1 : List (Nat × Instr × Nat) := [(32, .putfield 148, 3), (35, .iload_n 2, 1), (36, .ireturn, 1)]
set_option maxRecDepth 100000 in
theorem gv_32_1 : g_okc cX5_crew gi_32_1 = true := by decide +kernel
def gi_32 : List (List (Nat × Instr × Nat)) := [gi_32_0, gi_32_1]
theorem gv_32 : ∀ ch ∈ gi_32, g_okc cX5_crew ch = true := List.forall_mem_cons.mpr ⟨gv_32_0, List.forall_mem_cons.mpr ⟨gv_32_1, fun _ h => absurd h List.not_mem_nil⟩⟩
def gi_33_0 : List (Nat × Instr × Nat) := [(0, .aload_n 0, 1), (1, .getfield 10, 3), (4, .iload_n 1, 1), (5, .invokevirtual 102, 3), (8, .astore 4, 2), (10, .aload 4, 2), (12, .getfield 151, 3), (15, .istore 5, 2), (17, .aload 4, 2), (19, .iload_n 2, 1), (20, .putfield 151, 3), (23, .aload 4, 2), (25, .iload_n 3, 1), (26, .putfield 154, 3), (29, .iload 5, 2), (31, .ireturn, 1)]
set_option maxRecDepth 100000 in
theorem gv_33_0 : g_okc cX5_below gi_33_0 = true := by decide +kernel
def gi_33 : List (List (Nat × Instr × Nat)) := [gi_33_0]
theorem gv_33 : ∀ ch ∈ gi_33, g_okc cX5_below ch = true := List.forall_mem_cons.mpr ⟨gv_33_0, fun _ h => absurd h List.not_mem_nil⟩
def gi_34_0 : List (Nat × Instr × Nat) := [(0, .iconst 0, 1), (1, .istore_n 1, 1), (2, .iload_n 1, 1), (3, .aload_n 0, 1), (4, .getfield 22, 3), (7, .if_icmp .ge 29, 3), (10, .aload_n 0, 1), (11, .getfield 17, 3), (14, .iload_n 1, 1), (15, .aaload, 1), (16, .iconst 0, 1), (17, .putfield 39, 3), (20, .aload_n 0, 1), (21, .getfield 17, 3), (24, .iload_n 1, 1), (25, .aaload, 1), (26, .iconst 0, 1), (27, .putfield 42, 3), (30, .iinc 1 1, 3)]
set_option maxRecDepth 100000 in
theorem gv_34_0 : g_okc cX1_openAll gi_34_0 = true := by decide +kernel
def gi_34_1 : List (Nat × Instr × Nat) := [(33, .goto (-31), 3), (36, .return_, 1)]
set_option maxRecDepth 100000 in
theorem gv_34_1 : g_okc cX1_openAll gi_34_1 = true := by decide +kernel
def gi_34 : List (List (Nat × Instr × Nat)) := [gi_34_0, gi_34_1]
theorem gv_34 : ∀ ch ∈ gi_34, g_okc cX1_openAll ch = true := List.forall_mem_cons.mpr ⟨gv_34_0, List.forall_mem_cons.mpr ⟨gv_34_1, fun _ h => absurd h List.not_mem_nil⟩⟩
def gi_35_0 : List (Nat × Instr × Nat) := [(0, .aload_n 0, 1), (1, .iload_n 1, 1), (2, .invokevirtual 96, 3), (5, .invokevirtual 100, 3), (8, .aload_n 0, 1), (9, .iload_n 1, 1), (10, .putfield 15, 3), (13, .aload_n 0, 1), (14, .iconst 0, 1), (15, .putfield 56, 3), (18, .aload_n 0, 1), (19, .iconst 0, 1), (20, .putfield 60, 3), (23, .return_, 1)]
set_option maxRecDepth 100000 in
theorem gv_35_0 : g_okc cX4_begin gi_35_0 = true := by decide +kernel
def gi_35 : List (List (Nat × Instr × Nat)) := [gi_35_0]
theorem gv_35 : ∀ ch ∈ gi_35, g_okc cX4_begin ch = true := List.forall_mem_cons.mpr ⟨gv_35_0, fun _ h => absurd h List.not_mem_nil⟩
def gi_36_0 : List (Nat × Instr × Nat) := [(0, .aload_n 0, 1), (1, .getfield 10, 3), (4, .iload_n 1, 1), (5, .invokevirtual 98, 3), (8, .astore_n 2, 1), (9, .aload_n 0, 1), (10, .getfield 10, 3), (13, .getfield 112, 3), (16, .iconst (-1), 1), (17, .if_icmp .eq 13, 3), (20, .new 41, 3), (23, .dup, 1), (24, .ldc 189, 2), (26, .invokespecial 45, 3), (29, .athrow, 1), (30, .aload_n 0, 1), (31, .getfield 10, 3)]
set_option maxRecDepth 100000 in
theorem gv_36_0 : g_okc cX5_go gi_36_0 = true := by decide +kernel
def gi_36_1 : List (Nat × Instr × Nat) := [(34, .iload_n 1, 1), (35, .invokevirtual 191, 3), (38, .aload_n 2, 1), (39, .getfield 117, 3), (42, .ireturn, 1)]
set_option maxRecDepth 100000 in
theorem gv_36_1 : g_okc cX5_go gi_36_1 = true := by decide +kernel
def gi_36 : List (List (Nat × Instr × Nat)) := [gi_36_0, gi_36_1]
theorem gv_36 : ∀ ch ∈ gi_36, g_okc cX5_go ch = true := List.forall_mem_cons.mpr ⟨gv_36_0, List.forall_mem_cons.mpr ⟨gv_36_1, fun _ h => absurd h List.not_mem_nil⟩⟩
def gi_37_0 : List (Nat × Instr × Nat) := [(0, .aload_n 0, 1), (1, .getfield 10, 3), (4, .getfield 112, 3), (7, .iconst (-1), 1), (8, .if_icmp .ne 14, 3), (11, .new 41, 3), (14, .dup, 1), (15, .ldc_w 334, 3), (18, .invokespecial 45, 3), (21, .athrow, 1), (22, .return_, 1)]
set_option maxRecDepth 100000 in
theorem gv_37_0 : g_okc cX5_refuseUnlessRunning gi_37_0 = true := by decide +kernel
def gi_37 : List (List (Nat × Instr × Nat)) := [gi_37_0]
theorem gv_37 : ∀ ch ∈ gi_37, g_okc cX5_refuseUnlessRunning ch = true := List.forall_mem_cons.mpr ⟨gv_37_0, fun _ h => absurd h List.not_mem_nil⟩
def gi_38_0 : List (Nat × Instr × Nat) := [(0, .aload_n 0, 1), (1, .invokevirtual 195, 3), (4, .aload_n 0, 1), (5, .getfield 10, 3), (8, .getfield 198, 3), (11, .istore_n 2, 1), (12, .aload_n 0, 1), (13, .getfield 10, 3), (16, .iload_n 1, 1), (17, .putfield 198, 3), (20, .iload_n 2, 1), (21, .ireturn, 1)]
set_option maxRecDepth 100000 in
theorem gv_38_0 : g_okc cX5_stop gi_38_0 = true := by decide +kernel
def gi_38 : List (List (Nat × Instr × Nat)) := [gi_38_0]
theorem gv_38 : ∀ ch ∈ gi_38, g_okc cX5_stop ch = true := List.forall_mem_cons.mpr ⟨gv_38_0, fun _ h => absurd h List.not_mem_nil⟩
def gi_39_0 : List (Nat × Instr × Nat) := [(0, .aload_n 0, 1), (1, .iconst (-1), 1), (2, .putfield 15, 3), (5, .aload_n 0, 1), (6, .iconst 0, 1), (7, .putfield 56, 3), (10, .aload_n 0, 1), (11, .iconst 0, 1), (12, .putfield 60, 3), (15, .return_, 1)]
set_option maxRecDepth 100000 in
theorem gv_39_0 : g_okc cX4_rest gi_39_0 = true := by decide +kernel
def gi_39 : List (List (Nat × Instr × Nat)) := [gi_39_0]
theorem gv_39 : ∀ ch ∈ gi_39, g_okc cX4_rest ch = true := List.forall_mem_cons.mpr ⟨gv_39_0, fun _ h => absurd h List.not_mem_nil⟩
def gi_40_0 : List (Nat × Instr × Nat) := [(0, .aload_n 0, 1), (1, .invokevirtual 195, 3), (4, .aload_n 0, 1), (5, .getfield 10, 3), (8, .invokevirtual 201, 3), (11, .istore_n 1, 1), (12, .aload_n 0, 1), (13, .getfield 10, 3), (16, .invokevirtual 204, 3), (19, .iload_n 1, 1), (20, .ireturn, 1)]
set_option maxRecDepth 100000 in
theorem gv_40_0 : g_okc cX5_end gi_40_0 = true := by decide +kernel
def gi_40 : List (List (Nat × Instr × Nat)) := [gi_40_0]
theorem gv_40 : ∀ ch ∈ gi_40, g_okc cX5_end ch = true := List.forall_mem_cons.mpr ⟨gv_40_0, fun _ h => absurd h List.not_mem_nil⟩
def gi_41_0 : List (Nat × Instr × Nat) := [(0, .aload_n 0, 1), (1, .getfield 10, 3), (4, .iload_n 1, 1), (5, .invokevirtual 102, 3), (8, .astore_n 3, 1), (9, .aload_n 3, 1), (10, .getfield 207, 3), (13, .istore 4, 2), (15, .aload_n 3, 1), (16, .iload_n 2, 1), (17, .putfield 207, 3), (20, .iload 4, 2), (22, .ireturn, 1)]
set_option maxRecDepth 100000 in
theorem gv_41_0 : g_okc cX5_brake gi_41_0 = true := by decide +kernel
def gi_41 : List (List (Nat × Instr × Nat)) := [gi_41_0]
theorem gv_41 : ∀ ch ∈ gi_41, g_okc cX5_brake ch = true := List.forall_mem_cons.mpr ⟨gv_41_0, fun _ h => absurd h List.not_mem_nil⟩
def gi_42_0 : List (Nat × Instr × Nat) := [(0, .aload_n 0, 1), (1, .getfield 13, 3), (4, .aload_n 2, 1), (5, .getfield 13, 3), (8, .if_icmp .ge 15, 3), (11, .aload_n 2, 1), (12, .getfield 13, 3), (15, .aload_n 0, 1), (16, .getfield 13, 3), (19, .isub, 1), (20, .goto 12, 3), (23, .aload_n 0, 1), (24, .getfield 13, 3), (27, .aload_n 2, 1), (28, .getfield 13, 3), (31, .isub, 1)]
set_option maxRecDepth 100000 in
theorem gv_42_0 : g_okc cX0_touchesAt gi_42_0 = true := by decide +kernel
def gi_42_1 : List (Nat × Instr × Nat) := [(32, .istore_n 3, 1), (33, .iload_n 3, 1), (34, .ifCond .eq 46, 3), (37, .iload_n 3, 1), (38, .aload_n 0, 1), (39, .getfield 35, 3), (42, .aload_n 2, 1), (43, .getfield 35, 3), (46, .iadd, 1), (47, .if_icmp .gt 33, 3), (50, .iload_n 1, 1), (51, .aload_n 0, 1), (52, .getfield 32, 3), (55, .isub, 1), (56, .aload_n 2, 1), (57, .getfield 23, 3), (60, .if_icmp .gt 20, 3), (63, .aload_n 2, 1)]
set_option maxRecDepth 100000 in
theorem gv_42_1 : g_okc cX0_touchesAt gi_42_1 = true := by decide +kernel
def gi_42_2 : List (Nat × Instr × Nat) := [(64, .getfield 23, 3), (67, .aload_n 2, 1), (68, .getfield 32, 3), (71, .isub, 1), (72, .iload_n 1, 1), (73, .if_icmp .gt 7, 3), (76, .iconst 1, 1), (77, .goto 4, 3), (80, .iconst 0, 1), (81, .ireturn, 1)]
set_option maxRecDepth 100000 in
theorem gv_42_2 : g_okc cX0_touchesAt gi_42_2 = true := by decide +kernel
def gi_42 : List (List (Nat × Instr × Nat)) := [gi_42_0, gi_42_1, gi_42_2]
theorem gv_42 : ∀ ch ∈ gi_42, g_okc cX0_touchesAt ch = true := List.forall_mem_cons.mpr ⟨gv_42_0, List.forall_mem_cons.mpr ⟨gv_42_1, List.forall_mem_cons.mpr ⟨gv_42_2, fun _ h => absurd h List.not_mem_nil⟩⟩⟩
def gi_43_0 : List (Nat × Instr × Nat) := [(0, .aload_n 0, 1), (1, .getfield 10, 3), (4, .iload_n 1, 1), (5, .invokevirtual 102, 3), (8, .astore_n 3, 1), (9, .aload_n 0, 1), (10, .getfield 10, 3), (13, .iload_n 2, 1), (14, .invokevirtual 102, 3), (17, .astore 4, 2), (19, .aload_n 3, 1), (20, .aload_n 3, 1), (21, .getfield 223, 3), (24, .aload 4, 2), (26, .invokevirtual 251, 3), (29, .ireturn, 1)]
set_option maxRecDepth 100000 in
theorem gv_43_0 : g_okc cX5_touch gi_43_0 = true := by decide +kernel
def gi_43 : List (List (Nat × Instr × Nat)) := [gi_43_0]
theorem gv_43 : ∀ ch ∈ gi_43, g_okc cX5_touch ch = true := List.forall_mem_cons.mpr ⟨gv_43_0, fun _ h => absurd h List.not_mem_nil⟩
def gi_44_0 : List (Nat × Instr × Nat) := [(0, .aload_n 0, 1), (1, .invokevirtual 50, 3), (4, .istore_n 1, 1), (5, .iload_n 1, 1), (6, .ifCond .ge 8, 3), (9, .iload_n 1, 1), (10, .ineg, 1), (11, .goto 4, 3), (14, .iload_n 1, 1), (15, .ireturn, 1)]
set_option maxRecDepth 100000 in
theorem gv_44_0 : g_okc cX0_differenceWithoutSign gi_44_0 = true := by decide +kernel
def gi_44 : List (List (Nat × Instr × Nat)) := [gi_44_0]
theorem gv_44 : ∀ ch ∈ gi_44, g_okc cX0_differenceWithoutSign ch = true := List.forall_mem_cons.mpr ⟨gv_44_0, fun _ h => absurd h List.not_mem_nil⟩
def gi_45_0 : List (Nat × Instr × Nat) := [(0, .aload_n 2, 1), (1, .invokevirtual 156, 3), (4, .bipush 10, 2), (6, .if_icmp .le 20, 3), (9, .aload_n 1, 1), (10, .iconst 2, 1), (11, .putfield 133, 3), (14, .aload_n 0, 1), (15, .dup, 1), (16, .getfield 69, 3), (19, .iconst 1, 1), (20, .iadd, 1), (21, .putfield 69, 3), (24, .iconst 0, 1), (25, .ireturn, 1), (26, .aload_n 2, 1), (27, .getfield 159, 3), (30, .ifCond .ne 14, 3)]
set_option maxRecDepth 100000 in
theorem gv_45_0 : g_okc cX4_mayGo gi_45_0 = true := by decide +kernel
def gi_45_1 : List (Nat × Instr × Nat) := [(33, .aload_n 0, 1), (34, .getfield 50, 3), (37, .ifCond .ne 7, 3), (40, .iconst 1, 1), (41, .goto 4, 3), (44, .iconst 0, 1), (45, .istore_n 3, 1), (46, .iload_n 3, 1), (47, .ifCond .ne 17, 3), (50, .aload_n 2, 1), (51, .getfield 162, 3), (54, .ifCond .eq 32, 3), (57, .aload_n 2, 1), (58, .getfield 165, 3), (61, .ifCond .ne 25, 3)]
set_option maxRecDepth 100000 in
theorem gv_45_1 : g_okc cX4_mayGo gi_45_1 = true := by decide +kernel
def gi_45_2 : List (Nat × Instr × Nat) := [(64, .aload_n 1, 1), (65, .dup, 1), (66, .getfield 168, 3), (69, .iconst 1, 1), (70, .iadd, 1), (71, .putfield 168, 3), (74, .aload_n 0, 1), (75, .dup, 1), (76, .getfield 81, 3), (79, .iconst 1, 1), (80, .iadd, 1), (81, .putfield 81, 3), (84, .iconst 0, 1), (85, .ireturn, 1), (86, .iconst 1, 1), (87, .ireturn, 1)]
set_option maxRecDepth 100000 in
theorem gv_45_2 : g_okc cX4_mayGo gi_45_2 = true := by decide +kernel
def gi_45 : List (List (Nat × Instr × Nat)) := [gi_45_0, gi_45_1, gi_45_2]
theorem gv_45 : ∀ ch ∈ gi_45, g_okc cX4_mayGo ch = true := List.forall_mem_cons.mpr ⟨gv_45_0, List.forall_mem_cons.mpr ⟨gv_45_1, List.forall_mem_cons.mpr ⟨gv_45_2, fun _ h => absurd h List.not_mem_nil⟩⟩⟩
def gi_46_0 : List (Nat × Instr × Nat) := [(0, .iconst 0, 1), (1, .istore_n 3, 1), (2, .iload_n 3, 1), (3, .aload_n 0, 1), (4, .getfield 37, 3), (7, .if_icmp .ge 42, 3), (10, .aload_n 1, 1), (11, .iload_n 2, 1), (12, .aload_n 0, 1), (13, .getfield 23, 3), (16, .iload_n 3, 1), (17, .aaload, 1), (18, .invokevirtual 194, 3), (21, .ifCond .eq 22, 3), (24, .aload_n 1, 1), (25, .aload_n 1, 1), (26, .getfield 107, 3), (29, .aload_n 0, 1), (30, .getfield 23, 3)]
set_option maxRecDepth 100000 in
theorem gv_46_0 : g_okc cX4_touchesAnew gi_46_0 = true := by decide +kernel
def gi_46_1 : List (Nat × Instr × Nat) := [(33, .iload_n 3, 1), (34, .aaload, 1), (35, .invokevirtual 194, 3), (38, .ifCond .ne 5, 3), (41, .iconst 1, 1), (42, .ireturn, 1), (43, .iinc 3 1, 3), (46, .goto (-44), 3), (49, .iconst 0, 1), (50, .ireturn, 1)]
set_option maxRecDepth 100000 in
theorem gv_46_1 : g_okc cX4_touchesAnew gi_46_1 = true := by decide +kernel
def gi_46 : List (List (Nat × Instr × Nat)) := [gi_46_0, gi_46_1]
theorem gv_46 : ∀ ch ∈ gi_46, g_okc cX4_touchesAnew ch = true := List.forall_mem_cons.mpr ⟨gv_46_0, List.forall_mem_cons.mpr ⟨gv_46_1, fun _ h => absurd h List.not_mem_nil⟩⟩
def gi_47_0 : List (Nat × Instr × Nat) := [(0, .aload_n 0, 1), (1, .dup, 1), (2, .getfield 44, 3), (5, .iload_n 1, 1), (6, .aload_n 0, 1), (7, .getfield 23, 3), (10, .if_icmp .ge 12, 3), (13, .aload_n 0, 1), (14, .getfield 23, 3), (17, .iload_n 1, 1), (18, .isub, 1), (19, .goto 9, 3), (22, .iload_n 1, 1), (23, .aload_n 0, 1), (24, .getfield 23, 3), (27, .isub, 1), (28, .iadd, 1), (29, .putfield 44, 3)]
set_option maxRecDepth 100000 in
theorem gv_47_0 : g_okc cX0_goTo gi_47_0 = true := by decide +kernel
def gi_47_1 : List (Nat × Instr × Nat) := [(32, .aload_n 0, 1), (33, .iload_n 1, 1), (34, .putfield 23, 3), (37, .return_, 1)]
set_option maxRecDepth 100000 in
theorem gv_47_1 : g_okc cX0_goTo gi_47_1 = true := by decide +kernel
def gi_47 : List (List (Nat × Instr × Nat)) := [gi_47_0, gi_47_1]
theorem gv_47 : ∀ ch ∈ gi_47, g_okc cX0_goTo ch = true := List.forall_mem_cons.mpr ⟨gv_47_0, List.forall_mem_cons.mpr ⟨gv_47_1, fun _ h => absurd h List.not_mem_nil⟩⟩
def gi_48_0 : List (Nat × Instr × Nat) := [(0, .aload_n 2, 1), (1, .getfield 159, 3), (4, .ifCond .ne 13, 3), (7, .aload_n 0, 1), (8, .dup, 1), (9, .getfield 50, 3), (12, .iconst 1, 1), (13, .isub, 1), (14, .putfield 50, 3), (17, .aload_n 1, 1), (18, .getfield 169, 3), (21, .ineg, 1), (22, .aload_n 1, 1), (23, .getfield 169, 3), (26, .aload_n 1, 1), (27, .getfield 172, 3), (30, .aload_n 2, 1), (31, .getfield 107, 3)]
set_option maxRecDepth 100000 in
theorem gv_48_0 : g_okc cX4_goNearer gi_48_0 = true := by decide +kernel
def gi_48_1 : List (Nat × Instr × Nat) := [(34, .isub, 1), (35, .invokestatic 175, 3), (38, .invokestatic 181, 3), (41, .istore_n 3, 1), (42, .aload_n 2, 1), (43, .getfield 107, 3), (46, .iload_n 3, 1), (47, .iadd, 1), (48, .istore 4, 2), (50, .aload_n 0, 1), (51, .aload_n 2, 1), (52, .iload 4, 2), (54, .invokevirtual 184, 3), (57, .ifCond .eq 27, 3), (60, .aload_n 0, 1), (61, .iconst 1, 1), (62, .putfield 56, 3)]
set_option maxRecDepth 100000 in
theorem gv_48_1 : g_okc cX4_goNearer gi_48_1 = true := by decide +kernel
def gi_48_2 : List (Nat × Instr × Nat) := [(65, .aload_n 0, 1), (66, .dup, 1), (67, .getfield 72, 3), (70, .iconst 1, 1), (71, .iadd, 1), (72, .putfield 72, 3), (75, .aload_n 0, 1), (76, .aload_n 2, 1), (77, .getfield 188, 3), (80, .putfield 18, 3), (83, .return_, 1), (84, .aload_n 2, 1), (85, .iload 4, 2), (87, .invokevirtual 191, 3), (90, .aload_n 2, 1), (91, .getfield 107, 3), (94, .aload_n 1, 1), (95, .getfield 172, 3)]
set_option maxRecDepth 100000 in
theorem gv_48_2 : g_okc cX4_goNearer gi_48_2 = true := by decide +kernel
def gi_48_3 : List (Nat × Instr × Nat) := [(98, .if_icmp .ne 18, 3), (101, .aload_n 1, 1), (102, .iconst 1, 1), (103, .putfield 133, 3), (106, .aload_n 0, 1), (107, .dup, 1), (108, .getfield 63, 3), (111, .iconst 1, 1), (112, .iadd, 1), (113, .putfield 63, 3), (116, .return_, 1)]
set_option maxRecDepth 100000 in
theorem gv_48_3 : g_okc cX4_goNearer gi_48_3 = true := by decide +kernel
def gi_48 : List (List (Nat × Instr × Nat)) := [gi_48_0, gi_48_1, gi_48_2, gi_48_3]
theorem gv_48 : ∀ ch ∈ gi_48, g_okc cX4_goNearer ch = true := List.forall_mem_cons.mpr ⟨gv_48_0, List.forall_mem_cons.mpr ⟨gv_48_1, List.forall_mem_cons.mpr ⟨gv_48_2, List.forall_mem_cons.mpr ⟨gv_48_3, fun _ h => absurd h List.not_mem_nil⟩⟩⟩⟩
def gi_49_0 : List (Nat × Instr × Nat) := [(0, .aload_n 0, 1), (1, .dup, 1), (2, .getfield 60, 3), (5, .iconst 1, 1), (6, .iadd, 1), (7, .putfield 60, 3), (10, .aload_n 0, 1), (11, .aload_n 0, 1), (12, .getfield 9, 3), (15, .putfield 50, 3), (18, .iconst 0, 1), (19, .istore_n 2, 1), (20, .iload_n 2, 1), (21, .aload_n 1, 1), (22, .getfield 126, 3), (25, .if_icmp .ge 70, 3), (28, .aload_n 0, 1), (29, .getfield 56, 3)]
set_option maxRecDepth 100000 in
theorem gv_49_0 : g_okc cX4_playMoves gi_49_0 = true := by decide +kernel
def gi_49_1 : List (Nat × Instr × Nat) := [(32, .ifCond .ne 63, 3), (35, .aload_n 1, 1), (36, .getfield 129, 3), (39, .iload_n 2, 1), (40, .aaload, 1), (41, .astore_n 3, 1), (42, .aload_n 3, 1), (43, .getfield 133, 3), (46, .ifCond .ne 43, 3), (49, .aload_n 3, 1), (50, .getfield 138, 3), (53, .aload_n 0, 1), (54, .getfield 60, 3), (57, .iconst 1, 1), (58, .isub, 1), (59, .if_icmp .gt 30, 3), (62, .aload_n 0, 1), (63, .aload_n 3, 1)]
set_option maxRecDepth 100000 in
theorem gv_49_1 : g_okc cX4_playMoves gi_49_1 = true := by decide +kernel
def gi_49_2 : List (Nat × Instr × Nat) := [(64, .getfield 141, 3), (67, .invokevirtual 144, 3), (70, .astore 4, 2), (72, .aload_n 0, 1), (73, .aload_n 3, 1), (74, .aload 4, 2), (76, .invokevirtual 148, 3), (79, .ifCond .eq 10, 3), (82, .aload_n 0, 1), (83, .aload_n 3, 1), (84, .aload 4, 2), (86, .invokevirtual 152, 3), (89, .iinc 2 1, 3), (92, .goto (-72), 3), (95, .return_, 1)]
set_option maxRecDepth 100000 in
theorem gv_49_2 : g_okc cX4_playMoves gi_49_2 = true := by decide +kernel
def gi_49 : List (List (Nat × Instr × Nat)) := [gi_49_0, gi_49_1, gi_49_2]
theorem gv_49 : ∀ ch ∈ gi_49, g_okc cX4_playMoves ch = true := List.forall_mem_cons.mpr ⟨gv_49_0, List.forall_mem_cons.mpr ⟨gv_49_1, List.forall_mem_cons.mpr ⟨gv_49_2, fun _ h => absurd h List.not_mem_nil⟩⟩⟩
def gi_50_0 : List (Nat × Instr × Nat) := [(0, .aload_n 1, 1), (1, .getfield 107, 3), (4, .iload_n 2, 1), (5, .if_icmp .ge 12, 3), (8, .iload_n 2, 1), (9, .aload_n 1, 1), (10, .getfield 107, 3), (13, .isub, 1), (14, .goto 9, 3), (17, .aload_n 1, 1), (18, .getfield 107, 3), (21, .iload_n 2, 1), (22, .isub, 1), (23, .istore_n 3, 1), (24, .aload_n 1, 1), (25, .getfield 107, 3), (28, .ifCond .eq 12, 3), (31, .aload_n 1, 1)]
set_option maxRecDepth 100000 in
theorem gv_50_0 : g_okc cX4_judgeRun gi_50_0 = true := by decide +kernel
def gi_50_1 : List (Nat × Instr × Nat) := [(32, .getfield 107, 3), (35, .bipush 120, 2), (37, .if_icmp .ne 18, 3), (40, .iload_n 3, 1), (41, .iconst 4, 1), (42, .if_icmp .lt 13, 3), (45, .aload_n 0, 1), (46, .dup, 1), (47, .getfield 75, 3), (50, .iconst 1, 1), (51, .iadd, 1), (52, .putfield 75, 3), (55, .aload_n 1, 1), (56, .getfield 107, 3), (59, .iload_n 2, 1), (60, .if_icmp .ge 29, 3), (63, .aload_n 1, 1)]
set_option maxRecDepth 100000 in
theorem gv_50_1 : g_okc cX4_judgeRun gi_50_1 = true := by decide +kernel
def gi_50_2 : List (Nat × Instr × Nat) := [(64, .getfield 107, 3), (67, .bipush 20, 2), (69, .if_icmp .gt 20, 3), (72, .aload_n 1, 1), (73, .getfield 162, 3), (76, .ifCond .eq 13, 3), (79, .aload_n 0, 1), (80, .dup, 1), (81, .getfield 78, 3), (84, .iconst 1, 1), (85, .iadd, 1), (86, .putfield 78, 3), (89, .return_, 1)]
set_option maxRecDepth 100000 in
theorem gv_50_2 : g_okc cX4_judgeRun gi_50_2 = true := by decide +kernel
def gi_50 : List (List (Nat × Instr × Nat)) := [gi_50_0, gi_50_1, gi_50_2]
theorem gv_50 : ∀ ch ∈ gi_50, g_okc cX4_judgeRun ch = true := List.forall_mem_cons.mpr ⟨gv_50_0, List.forall_mem_cons.mpr ⟨gv_50_1, List.forall_mem_cons.mpr ⟨gv_50_2, fun _ h => absurd h List.not_mem_nil⟩⟩⟩
def gi_51_0 : List (Nat × Instr × Nat) := [(0, .bipush 8, 2), (2, .aload_n 1, 1), (3, .invokevirtual 156, 3), (6, .bipush 9, 2), (8, .iadd, 1), (9, .bipush 10, 2), (11, .idiv, 1), (12, .invokestatic 175, 3), (15, .istore_n 2, 1), (16, .aload_n 1, 1), (17, .invokevirtual 198, 3), (20, .ifCond .le 7, 3), (23, .iconst (-1), 1), (24, .goto 4, 3), (27, .iconst 1, 1), (28, .istore_n 3, 1), (29, .aload_n 1, 1), (30, .getfield 107, 3)]
set_option maxRecDepth 100000 in
theorem gv_51_0 : g_okc cX4_runAway gi_51_0 = true := by decide +kernel
def gi_51_1 : List (Nat × Instr × Nat) := [(33, .istore 4, 2), (35, .iconst 0, 1), (36, .istore 5, 2), (38, .iload 5, 2), (40, .iload_n 2, 1), (41, .if_icmp .ge 48, 3), (44, .aload_n 1, 1), (45, .getfield 107, 3), (48, .iload_n 3, 1), (49, .iadd, 1), (50, .istore 6, 2), (52, .iload 6, 2), (54, .ifCond .lt 35, 3), (57, .iload 6, 2), (59, .bipush 120, 2), (61, .if_icmp .gt 28, 3)]
set_option maxRecDepth 100000 in
theorem gv_51_1 : g_okc cX4_runAway gi_51_1 = true := by decide +kernel
def gi_51_2 : List (Nat × Instr × Nat) := [(64, .aload_n 0, 1), (65, .aload_n 1, 1), (66, .iload 6, 2), (68, .invokevirtual 184, 3), (71, .ifCond .eq 6, 3), (74, .goto 15, 3), (77, .aload_n 1, 1), (78, .iload 6, 2), (80, .invokevirtual 191, 3), (83, .iinc 5 1, 3), (86, .goto (-48), 3), (89, .aload_n 0, 1), (90, .aload_n 1, 1), (91, .iload 4, 2), (93, .invokevirtual 201, 3)]
set_option maxRecDepth 100000 in
theorem gv_51_2 : g_okc cX4_runAway gi_51_2 = true := by decide +kernel
def gi_51_3 : List (Nat × Instr × Nat) := [(96, .return_, 1)]
set_option maxRecDepth 100000 in
theorem gv_51_3 : g_okc cX4_runAway gi_51_3 = true := by decide +kernel
def gi_51 : List (List (Nat × Instr × Nat)) := [gi_51_0, gi_51_1, gi_51_2, gi_51_3]
theorem gv_51 : ∀ ch ∈ gi_51, g_okc cX4_runAway ch = true := List.forall_mem_cons.mpr ⟨gv_51_0, List.forall_mem_cons.mpr ⟨gv_51_1, List.forall_mem_cons.mpr ⟨gv_51_2, List.forall_mem_cons.mpr ⟨gv_51_3, fun _ h => absurd h List.not_mem_nil⟩⟩⟩⟩
def gi_52_0 : List (Nat × Instr × Nat) := [(0, .aload_n 0, 1), (1, .dup, 1), (2, .getfield 66, 3), (5, .iconst 1, 1), (6, .iadd, 1), (7, .putfield 66, 3), (10, .aload_n 0, 1), (11, .invokevirtual 205, 3), (14, .iload_n 1, 1), (15, .iconst (-1), 1), (16, .if_icmp .eq 16, 3), (19, .iload_n 1, 1), (20, .aload_n 0, 1), (21, .getfield 44, 3), (24, .if_icmp .ge 8, 3), (27, .aload_n 0, 1), (28, .iload_n 1, 1), (29, .invokevirtual 208, 3)]
set_option maxRecDepth 100000 in
theorem gv_52_0 : g_okc cX4_finish gi_52_0 = true := by decide +kernel
def gi_52_1 : List (Nat × Instr × Nat) := [(32, .return_, 1)]
set_option maxRecDepth 100000 in
theorem gv_52_1 : g_okc cX4_finish gi_52_1 = true := by decide +kernel
def gi_52 : List (List (Nat × Instr × Nat)) := [gi_52_0, gi_52_1]
theorem gv_52 : ∀ ch ∈ gi_52, g_okc cX4_finish ch = true := List.forall_mem_cons.mpr ⟨gv_52_0, List.forall_mem_cons.mpr ⟨gv_52_1, fun _ h => absurd h List.not_mem_nil⟩⟩
def gi_53_0 : List (Nat × Instr × Nat) := [(0, .aload_n 0, 1), (1, .dup, 1), (2, .getfield 53, 3), (5, .iconst 1, 1), (6, .iadd, 1), (7, .putfield 53, 3), (10, .iconst 0, 1), (11, .istore_n 1, 1), (12, .iload_n 1, 1), (13, .aload_n 0, 1), (14, .getfield 37, 3), (17, .if_icmp .ge 27, 3), (20, .aload_n 0, 1), (21, .getfield 23, 3), (24, .iload_n 1, 1), (25, .aaload, 1), (26, .aload_n 0, 1), (27, .getfield 23, 3), (30, .iload_n 1, 1), (31, .aaload, 1)]
set_option maxRecDepth 100000 in
theorem gv_53_0 : g_okc cX4_playSecond gi_53_0 = true := by decide +kernel
def gi_53_1 : List (Nat × Instr × Nat) := [(32, .getfield 107, 3), (35, .putfield 110, 3), (38, .iinc 1 1, 3), (41, .goto (-29), 3), (44, .aload_n 0, 1), (45, .getfield 15, 3), (48, .iconst (-1), 1), (49, .if_icmp .eq 22, 3), (52, .aload_n 0, 1), (53, .getfield 56, 3), (56, .ifCond .ne 15, 3), (59, .aload_n 0, 1), (60, .aload_n 0, 1), (61, .aload_n 0, 1), (62, .getfield 15, 3)]
set_option maxRecDepth 100000 in
theorem gv_53_1 : g_okc cX4_playSecond gi_53_1 = true := by decide +kernel
def gi_53_2 : List (Nat × Instr × Nat) := [(65, .invokevirtual 96, 3), (68, .invokevirtual 113, 3), (71, .iconst 0, 1), (72, .istore_n 1, 1), (73, .iload_n 1, 1), (74, .aload_n 0, 1), (75, .getfield 37, 3), (78, .if_icmp .ge 52, 3), (81, .aload_n 0, 1), (82, .getfield 23, 3), (85, .iload_n 1, 1), (86, .aaload, 1), (87, .getfield 93, 3), (90, .ifCond .eq 34, 3), (93, .aload_n 0, 1), (94, .getfield 23, 3)]
set_option maxRecDepth 100000 in
theorem gv_53_2 : g_okc cX4_playSecond gi_53_2 = true := by decide +kernel
def gi_53_3 : List (Nat × Instr × Nat) := [(97, .iload_n 1, 1), (98, .aaload, 1), (99, .getfield 107, 3), (102, .aload_n 0, 1), (103, .getfield 23, 3), (106, .iload_n 1, 1), (107, .aaload, 1), (108, .getfield 110, 3), (111, .if_icmp .ne 13, 3), (114, .aload_n 0, 1), (115, .aload_n 0, 1), (116, .getfield 23, 3), (119, .iload_n 1, 1), (120, .aaload, 1), (121, .invokevirtual 116, 3), (124, .iinc 1 1, 3), (127, .goto (-54), 3)]
set_option maxRecDepth 100000 in
theorem gv_53_3 : g_okc cX4_playSecond gi_53_3 = true := by decide +kernel
def gi_53_4 : List (Nat × Instr × Nat) := [(130, .aload_n 0, 1), (131, .getfield 15, 3), (134, .iconst (-1), 1), (135, .if_icmp .eq 25, 3), (138, .aload_n 0, 1), (139, .invokevirtual 119, 3), (142, .ifCond .ne 18, 3), (145, .aload_n 0, 1), (146, .aload_n 0, 1), (147, .aload_n 0, 1), (148, .getfield 15, 3), (151, .invokevirtual 96, 3), (154, .getfield 120, 3), (157, .invokevirtual 123, 3)]
set_option maxRecDepth 100000 in
theorem gv_53_4 : g_okc cX4_playSecond gi_53_4 = true := by decide +kernel
def gi_53_5 : List (Nat × Instr × Nat) := [(160, .return_, 1)]
set_option maxRecDepth 100000 in
theorem gv_53_5 : g_okc cX4_playSecond gi_53_5 = true := by decide +kernel
def gi_53 : List (List (Nat × Instr × Nat)) := [gi_53_0, gi_53_1, gi_53_2, gi_53_3, gi_53_4, gi_53_5]
theorem gv_53 : ∀ ch ∈ gi_53, g_okc cX4_playSecond ch = true := List.forall_mem_cons.mpr ⟨gv_53_0, List.forall_mem_cons.mpr ⟨gv_53_1, List.forall_mem_cons.mpr ⟨gv_53_2, List.forall_mem_cons.mpr ⟨gv_53_3, List.forall_mem_cons.mpr ⟨gv_53_4, List.forall_mem_cons.mpr ⟨gv_53_5, fun _ h => absurd h List.not_mem_nil⟩⟩⟩⟩⟩⟩
