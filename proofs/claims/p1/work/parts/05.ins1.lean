def g_okc (cc : ByteArray) (ch : List (Nat × Instr × Nat)) : Bool := ch.all fun e => decide (decode cc e.1 = .ok (e.2.1, e.2.2)) && (glen e.2.1 == e.2.2 || glen e.2.1 == 0)
def gi_0_0 : List (Nat × Instr × Nat) := [(0, .aload_n 0, 1), (1, .invokespecial 1, 3), (4, .aload_n 0, 1), (5, .iconst 1, 1), (6, .putfield 7, 3), (9, .aload_n 0, 1), (10, .iload_n 1, 1), (11, .putfield 13, 3), (14, .return_, 1)]
set_option maxRecDepth 100000 in
theorem gv_0_0 : g_okc cX0_init gi_0_0 = true := by decide +kernel
def gi_0 : List (List (Nat × Instr × Nat)) := [gi_0_0]
theorem gv_0 : ∀ ch ∈ gi_0, g_okc cX0_init ch = true := List.forall_mem_cons.mpr ⟨gv_0_0, fun _ h => absurd h List.not_mem_nil⟩
def gi_1_0 : List (Nat × Instr × Nat) := [(0, .aload_n 0, 1), (1, .invokespecial 3, 3), (4, .aload_n 0, 1), (5, .iconst (-1), 1), (6, .putfield 9, 3), (9, .return_, 1)]
set_option maxRecDepth 100000 in
theorem gv_1_0 : g_okc cX2_init gi_1_0 = true := by decide +kernel
def gi_1 : List (List (Nat × Instr × Nat)) := [gi_1_0]
theorem gv_1 : ∀ ch ∈ gi_1, g_okc cX2_init ch = true := List.forall_mem_cons.mpr ⟨gv_1_0, fun _ h => absurd h List.not_mem_nil⟩
def gi_2_0 : List (Nat × Instr × Nat) := [(0, .aload_n 0, 1), (1, .invokespecial 3, 3), (4, .aload_n 0, 1), (5, .iconst (-1), 1), (6, .putfield 9, 3), (9, .aload_n 0, 1), (10, .bipush 6, 2), (12, .anewarray 15, 3), (15, .putfield 17, 3), (18, .iconst 0, 1), (19, .istore_n 1, 1), (20, .iload_n 1, 1), (21, .bipush 6, 2), (23, .if_icmp .ge 22, 3), (26, .aload_n 0, 1), (27, .getfield 17, 3), (30, .iload_n 1, 1), (31, .new 15, 3)]
set_option maxRecDepth 100000 in
theorem gv_2_0 : g_okc cX1_init gi_2_0 = true := by decide +kernel
def gi_2_1 : List (Nat × Instr × Nat) := [(34, .dup, 1), (35, .invokespecial 21, 3), (38, .aastore, 1), (39, .iinc 1 1, 3), (42, .goto (-22), 3), (45, .return_, 1)]
set_option maxRecDepth 100000 in
theorem gv_2_1 : g_okc cX1_init gi_2_1 = true := by decide +kernel
def gi_2 : List (List (Nat × Instr × Nat)) := [gi_2_0, gi_2_1]
theorem gv_2 : ∀ ch ∈ gi_2, g_okc cX1_init ch = true := List.forall_mem_cons.mpr ⟨gv_2_0, List.forall_mem_cons.mpr ⟨gv_2_1, fun _ h => absurd h List.not_mem_nil⟩⟩
def gi_3_0 : List (Nat × Instr × Nat) := [(0, .aload_n 0, 1), (1, .invokespecial 3, 3), (4, .aload_n 0, 1), (5, .iconst 2, 1), (6, .putfield 9, 3), (9, .aload_n 0, 1), (10, .iconst (-1), 1), (11, .putfield 15, 3), (14, .aload_n 0, 1), (15, .iconst (-1), 1), (16, .putfield 18, 3), (19, .aload_n 0, 1), (20, .bipush 8, 2), (22, .anewarray 21, 3), (25, .putfield 23, 3), (28, .iconst 0, 1), (29, .istore_n 1, 1), (30, .iload_n 1, 1), (31, .bipush 8, 2)]
set_option maxRecDepth 100000 in
theorem gv_3_0 : g_okc cX4_init gi_3_0 = true := by decide +kernel
def gi_3_1 : List (Nat × Instr × Nat) := [(33, .if_icmp .ge 23, 3), (36, .aload_n 0, 1), (37, .getfield 23, 3), (40, .iload_n 1, 1), (41, .new 21, 3), (44, .dup, 1), (45, .iload_n 1, 1), (46, .invokespecial 27, 3), (49, .aastore, 1), (50, .iinc 1 1, 3), (53, .goto (-23), 3), (56, .aload_n 0, 1), (57, .bipush 6, 2), (59, .anewarray 30, 3), (62, .putfield 32, 3)]
set_option maxRecDepth 100000 in
theorem gv_3_1 : g_okc cX4_init gi_3_1 = true := by decide +kernel
def gi_3_2 : List (Nat × Instr × Nat) := [(65, .iconst 0, 1), (66, .istore_n 1, 1), (67, .iload_n 1, 1), (68, .bipush 6, 2), (70, .if_icmp .ge 22, 3), (73, .aload_n 0, 1), (74, .getfield 32, 3), (77, .iload_n 1, 1), (78, .new 30, 3), (81, .dup, 1), (82, .invokespecial 36, 3), (85, .aastore, 1), (86, .iinc 1 1, 3), (89, .goto (-22), 3), (92, .return_, 1)]
set_option maxRecDepth 100000 in
theorem gv_3_2 : g_okc cX4_init gi_3_2 = true := by decide +kernel
def gi_3 : List (List (Nat × Instr × Nat)) := [gi_3_0, gi_3_1, gi_3_2]
theorem gv_3 : ∀ ch ∈ gi_3, g_okc cX4_init ch = true := List.forall_mem_cons.mpr ⟨gv_3_0, List.forall_mem_cons.mpr ⟨gv_3_1, List.forall_mem_cons.mpr ⟨gv_3_2, fun _ h => absurd h List.not_mem_nil⟩⟩⟩
def gi_4_0 : List (Nat × Instr × Nat) := [(0, .aload_n 0, 1), (1, .invokespecial 3, 3), (4, .aload_n 0, 1), (5, .iconst (-1), 1), (6, .putfield 9, 3), (9, .return_, 1)]
set_option maxRecDepth 100000 in
theorem gv_4_0 : g_okc cX3_init gi_4_0 = true := by decide +kernel
def gi_4 : List (List (Nat × Instr × Nat)) := [gi_4_0]
theorem gv_4 : ∀ ch ∈ gi_4, g_okc cX3_init ch = true := List.forall_mem_cons.mpr ⟨gv_4_0, fun _ h => absurd h List.not_mem_nil⟩
def gi_5_0 : List (Nat × Instr × Nat) := [(0, .aload_n 0, 1), (1, .invokespecial 1, 3), (4, .aload_n 0, 1), (5, .new 7, 3), (8, .dup, 1), (9, .invokespecial 9, 3), (12, .putfield 10, 3), (15, .aload_n 0, 1), (16, .new 7, 3), (19, .dup, 1), (20, .invokespecial 9, 3), (23, .putfield 16, 3), (26, .aload_n 0, 1), (27, .bipush 10, 2), (29, .anewarray 19, 3)]
set_option maxRecDepth 100000 in
theorem gv_5_0 : g_okc cX5_init gi_5_0 = true := by decide +kernel
def gi_5_1 : List (Nat × Instr × Nat) := [(32, .putfield 21, 3), (35, .iconst 0, 1), (36, .istore_n 1, 1), (37, .iload_n 1, 1), (38, .bipush 10, 2), (40, .if_icmp .ge 22, 3), (43, .aload_n 0, 1), (44, .getfield 21, 3), (47, .iload_n 1, 1), (48, .new 19, 3), (51, .dup, 1), (52, .invokespecial 25, 3), (55, .aastore, 1), (56, .iinc 1 1, 3), (59, .goto (-22), 3), (62, .aload_n 0, 1), (63, .bipush 10, 2)]
set_option maxRecDepth 100000 in
theorem gv_5_1 : g_okc cX5_init gi_5_1 = true := by decide +kernel
def gi_5_2 : List (Nat × Instr × Nat) := [(65, .newarray .int, 2), (67, .putfield 26, 3), (70, .return_, 1)]
set_option maxRecDepth 100000 in
theorem gv_5_2 : g_okc cX5_init gi_5_2 = true := by decide +kernel
def gi_5 : List (List (Nat × Instr × Nat)) := [gi_5_0, gi_5_1, gi_5_2]
theorem gv_5 : ∀ ch ∈ gi_5, g_okc cX5_init ch = true := List.forall_mem_cons.mpr ⟨gv_5_0, List.forall_mem_cons.mpr ⟨gv_5_1, List.forall_mem_cons.mpr ⟨gv_5_2, fun _ h => absurd h List.not_mem_nil⟩⟩⟩
def gi_6_0 : List (Nat × Instr × Nat) := [(0, .aload_n 0, 1), (1, .invokespecial 1, 3), (4, .return_, 1)]
set_option maxRecDepth 100000 in
theorem gv_6_0 : g_okc cJxa1e45_init_da8c8 gi_6_0 = true := by decide +kernel
def gi_6 : List (List (Nat × Instr × Nat)) := [gi_6_0]
theorem gv_6 : ∀ ch ∈ gi_6, g_okc cJxa1e45_init_da8c8 ch = true := List.forall_mem_cons.mpr ⟨gv_6_0, fun _ h => absurd h List.not_mem_nil⟩
def gi_7_0 : List (Nat × Instr × Nat) := [(0, .aload_n 0, 1), (1, .invokespecial 1, 3), (4, .aload_n 0, 1), (5, .iconst 0, 1), (6, .putfield 7, 3), (9, .return_, 1)]
set_option maxRecDepth 100000 in
theorem gv_7_0 : g_okc cJxc12de_init_da8c8 gi_7_0 = true := by decide +kernel
def gi_7 : List (List (Nat × Instr × Nat)) := [gi_7_0]
theorem gv_7 : ∀ ch ∈ gi_7, g_okc cJxc12de_init_da8c8 ch = true := List.forall_mem_cons.mpr ⟨gv_7_0, fun _ h => absurd h List.not_mem_nil⟩
def gi_8_0 : List (Nat × Instr × Nat) := [(0, .aload_n 0, 1), (1, .invokespecial 1, 3), (4, .aload_n 0, 1), (5, .getstatic 39, 3), (8, .putfield 9, 3), (11, .return_, 1)]
set_option maxRecDepth 100000 in
theorem gv_8_0 : g_okc cJx4a65c_init_da8c8 gi_8_0 = true := by decide +kernel
def gi_8 : List (List (Nat × Instr × Nat)) := [gi_8_0]
theorem gv_8 : ∀ ch ∈ gi_8, g_okc cJx4a65c_init_da8c8 ch = true := List.forall_mem_cons.mpr ⟨gv_8_0, fun _ h => absurd h List.not_mem_nil⟩
def gi_9_0 : List (Nat × Instr × Nat) := [(0, .aload_n 0, 1), (1, .invokespecial 3, 3), (4, .aload_n 0, 1), (5, .new 9, 3), (8, .dup, 1), (9, .invokespecial 11, 3), (12, .putfield 12, 3), (15, .aload_n 0, 1), (16, .new 9, 3), (19, .dup, 1), (20, .invokespecial 11, 3), (23, .putfield 18, 3), (26, .aload_n 0, 1), (27, .bipush 6, 2), (29, .newarray .int, 2), (31, .putfield 21, 3)]
set_option maxRecDepth 100000 in
theorem gv_9_0 : g_okc cX6_init gi_9_0 = true := by decide +kernel
def gi_9_1 : List (Nat × Instr × Nat) := [(34, .aload_n 0, 1), (35, .iconst 2, 1), (36, .putfield 25, 3), (39, .aload_n 0, 1), (40, .iconst (-1), 1), (41, .putfield 29, 3), (44, .aload_n 0, 1), (45, .iconst (-1), 1), (46, .putfield 32, 3), (49, .return_, 1)]
set_option maxRecDepth 100000 in
theorem gv_9_1 : g_okc cX6_init gi_9_1 = true := by decide +kernel
def gi_9 : List (List (Nat × Instr × Nat)) := [gi_9_0, gi_9_1]
theorem gv_9 : ∀ ch ∈ gi_9, g_okc cX6_init ch = true := List.forall_mem_cons.mpr ⟨gv_9_0, List.forall_mem_cons.mpr ⟨gv_9_1, fun _ h => absurd h List.not_mem_nil⟩⟩
def gi_10_0 : List (Nat × Instr × Nat) := [(0, .aload_n 0, 1), (1, .invokespecial 1, 3), (4, .aload_n 0, 1), (5, .new 7, 3), (8, .dup, 1), (9, .invokespecial 9, 3), (12, .putfield 10, 3), (15, .aload_n 0, 1), (16, .new 16, 3), (19, .dup, 1), (20, .invokespecial 18, 3), (23, .putfield 19, 3), (26, .return_, 1)]
set_option maxRecDepth 100000 in
theorem gv_10_0 : g_okc cX7_init gi_10_0 = true := by decide +kernel
def gi_10 : List (List (Nat × Instr × Nat)) := [gi_10_0]
theorem gv_10 : ∀ ch ∈ gi_10, g_okc cX7_init ch = true := List.forall_mem_cons.mpr ⟨gv_10_0, fun _ h => absurd h List.not_mem_nil⟩
def gi_11_0 : List (Nat × Instr × Nat) := [(0, .iload_n 2, 1), (1, .bipush 10, 2), (3, .if_icmp .lt 10, 3), (6, .iload_n 2, 1), (7, .sipush 300, 3), (10, .if_icmp .le 13, 3), (13, .new 30, 3), (16, .dup, 1), (17, .ldc 32, 2), (19, .invokespecial 34, 3), (22, .athrow, 1), (23, .aload_n 0, 1), (24, .getfield 10, 3), (27, .getfield 37, 3), (30, .bipush 8, 2)]
set_option maxRecDepth 100000 in
theorem gv_11_0 : g_okc cX5_bar gi_11_0 = true := by decide +kernel
def gi_11_1 : List (Nat × Instr × Nat) := [(32, .if_icmp .lt 13, 3), (35, .new 41, 3), (38, .dup, 1), (39, .ldc 43, 2), (41, .invokespecial 45, 3), (44, .athrow, 1), (45, .aload_n 0, 1), (46, .getfield 10, 3), (49, .getfield 46, 3), (52, .aload_n 0, 1), (53, .getfield 10, 3), (56, .getfield 37, 3), (59, .aaload, 1), (60, .astore_n 3, 1), (61, .aload_n 3, 1), (62, .iload_n 1, 1), (63, .putfield 50, 3)]
set_option maxRecDepth 100000 in
theorem gv_11_1 : g_okc cX5_bar gi_11_1 = true := by decide +kernel
def gi_11_2 : List (Nat × Instr × Nat) := [(66, .aload_n 3, 1), (67, .iload_n 2, 1), (68, .putfield 56, 3), (71, .aload_n 0, 1), (72, .getfield 10, 3), (75, .dup, 1), (76, .getfield 37, 3), (79, .iconst 1, 1), (80, .iadd, 1), (81, .putfield 37, 3), (84, .aload_n 3, 1), (85, .getfield 59, 3), (88, .ireturn, 1)]
set_option maxRecDepth 100000 in
theorem gv_11_2 : g_okc cX5_bar gi_11_2 = true := by decide +kernel
def gi_11 : List (List (Nat × Instr × Nat)) := [gi_11_0, gi_11_1, gi_11_2]
theorem gv_11 : ∀ ch ∈ gi_11, g_okc cX5_bar ch = true := List.forall_mem_cons.mpr ⟨gv_11_0, List.forall_mem_cons.mpr ⟨gv_11_1, List.forall_mem_cons.mpr ⟨gv_11_2, fun _ h => absurd h List.not_mem_nil⟩⟩⟩
def gi_12_0 : List (Nat × Instr × Nat) := [(0, .aload_n 3, 1), (1, .iconst 0, 1), (2, .aload_n 0, 1), (3, .iload_n 1, 1), (4, .iload_n 2, 1), (5, .invokevirtual 7, 3), (8, .i2l, 1), (9, .lastore, 1), (10, .goto 11, 3), (13, .astore 4, 2), (15, .iconst 1, 1), (16, .ireturn, 1), (17, .astore 4, 2), (19, .iconst 2, 1), (20, .ireturn, 1), (21, .iconst 0, 1), (22, .ireturn, 1)]
set_option maxRecDepth 100000 in
theorem gv_12_0 : g_okc cL_bar gi_12_0 = true := by decide +kernel
def gi_12 : List (List (Nat × Instr × Nat)) := [gi_12_0]
theorem gv_12 : ∀ ch ∈ gi_12, g_okc cL_bar ch = true := List.forall_mem_cons.mpr ⟨gv_12_0, fun _ h => absurd h List.not_mem_nil⟩
def gi_13_0 : List (Nat × Instr × Nat) := [(0, .iload_n 0, 1), (1, .iload_n 1, 1), (2, .if_icmp .lt 12, 3), (5, .iload_n 0, 1), (6, .iload_n 2, 1), (7, .if_icmp .gt 7, 3), (10, .iconst 1, 1), (11, .goto 4, 3), (14, .iconst 0, 1), (15, .ireturn, 1)]
set_option maxRecDepth 100000 in
theorem gv_13_0 : g_okc cX7_is gi_13_0 = true := by decide +kernel
def gi_13 : List (List (Nat × Instr × Nat)) := [gi_13_0]
theorem gv_13 : ∀ ch ∈ gi_13, g_okc cX7_is ch = true := List.forall_mem_cons.mpr ⟨gv_13_0, fun _ h => absurd h List.not_mem_nil⟩
def gi_14_0 : List (Nat × Instr × Nat) := [(0, .aload_n 0, 1), (1, .iload_n 1, 1), (2, .putfield 23, 3), (5, .iconst 0, 1), (6, .ireturn, 1)]
set_option maxRecDepth 100000 in
theorem gv_14_0 : g_okc cX7_refuse gi_14_0 = true := by decide +kernel
def gi_14 : List (List (Nat × Instr × Nat)) := [gi_14_0]
theorem gv_14 : ∀ ch ∈ gi_14, g_okc cX7_refuse ch = true := List.forall_mem_cons.mpr ⟨gv_14_0, fun _ h => absurd h List.not_mem_nil⟩
def gi_15_0 : List (Nat × Instr × Nat) := [(0, .aload_n 0, 1), (1, .getfield 48, 3), (4, .ireturn, 1)]
set_option maxRecDepth 100000 in
theorem gv_15_0 : g_okc cJx4a65c_size_8abf5 gi_15_0 = true := by decide +kernel
def gi_15 : List (List (Nat × Instr × Nat)) := [gi_15_0]
theorem gv_15 : ∀ ch ∈ gi_15, g_okc cJx4a65c_size_8abf5 ch = true := List.forall_mem_cons.mpr ⟨gv_15_0, fun _ h => absurd h List.not_mem_nil⟩
def gi_16_0 : List (Nat × Instr × Nat) := [(0, .iload_n 0, 1), (1, .iload_n 1, 1), (2, .iadd, 1), (3, .istore_n 2, 1), (4, .iload_n 2, 1), (5, .ifCond .ge 44, 3), (8, .new 204, 3), (11, .dup, 1), (12, .new 89, 3), (15, .dup, 1), (16, .invokespecial 91, 3), (19, .ldc 206, 2), (21, .invokevirtual 94, 3), (24, .iload_n 0, 1), (25, .invokevirtual 98, 3), (28, .ldc 208, 2), (30, .invokevirtual 94, 3)]
set_option maxRecDepth 100000 in
theorem gv_16_0 : g_okc cJ8_hugeLength_7cf53 gi_16_0 = true := by decide +kernel
def gi_16_1 : List (Nat × Instr × Nat) := [(33, .iload_n 1, 1), (34, .invokevirtual 98, 3), (37, .ldc 210, 2), (39, .invokevirtual 94, 3), (42, .invokevirtual 101, 3), (45, .invokespecial 212, 3), (48, .athrow, 1), (49, .iload_n 2, 1), (50, .ldc 200, 2), (52, .if_icmp .gt 6, 3), (55, .ldc 200, 2), (57, .ireturn, 1), (58, .iload_n 2, 1), (59, .ireturn, 1)]
set_option maxRecDepth 100000 in
theorem gv_16_1 : g_okc cJ8_hugeLength_7cf53 gi_16_1 = true := by decide +kernel
def gi_16 : List (List (Nat × Instr × Nat)) := [gi_16_0, gi_16_1]
theorem gv_16 : ∀ ch ∈ gi_16, g_okc cJ8_hugeLength_7cf53 ch = true := List.forall_mem_cons.mpr ⟨gv_16_0, List.forall_mem_cons.mpr ⟨gv_16_1, fun _ h => absurd h List.not_mem_nil⟩⟩
def gi_17_0 : List (Nat × Instr × Nat) := [(0, .iload_n 0, 1), (1, .iload_n 1, 1), (2, .iload_n 2, 1), (3, .invokestatic 194, 3), (6, .iadd, 1), (7, .istore_n 3, 1), (8, .iconst 0, 1), (9, .iload_n 3, 1), (10, .if_icmp .ge 11, 3), (13, .iload_n 3, 1), (14, .ldc 200, 2), (16, .if_icmp .gt 5, 3), (19, .iload_n 3, 1), (20, .ireturn, 1), (21, .iload_n 0, 1), (22, .iload_n 1, 1), (23, .invokestatic 201, 3), (26, .ireturn, 1)]
set_option maxRecDepth 100000 in
theorem gv_17_0 : g_okc cJ8_newLength_cabcc gi_17_0 = true := by decide +kernel
def gi_17 : List (List (Nat × Instr × Nat)) := [gi_17_0]
theorem gv_17 : ∀ ch ∈ gi_17, g_okc cJ8_newLength_cabcc ch = true := List.forall_mem_cons.mpr ⟨gv_17_0, fun _ h => absurd h List.not_mem_nil⟩
def gi_18_0 : List (Nat × Instr × Nat) := [(0, .aload_n 2, 1), (1, .ldc 110, 2), (3, .if_acmp .ne 10, 3), (6, .iload_n 1, 1), (7, .anewarray 2, 3), (10, .goto 14, 3), (13, .aload_n 2, 1), (14, .invokevirtual 90, 3), (17, .iload_n 1, 1), (18, .invokestatic 95, 3), (21, .checkcast 110, 3), (24, .astore_n 3, 1), (25, .aload_n 0, 1), (26, .iconst 0, 1), (27, .aload_n 3, 1), (28, .iconst 0, 1), (29, .aload_n 0, 1), (30, .arraylength, 1), (31, .iload_n 1, 1)]
set_option maxRecDepth 100000 in
theorem gv_18_0 : g_okc cJ7_copyOf_6403c gi_18_0 = true := by decide +kernel
def gi_18_1 : List (Nat × Instr × Nat) := [(32, .invokestatic 304, 3), (35, .invokestatic 150, 3), (38, .aload_n 3, 1), (39, .areturn, 1)]
set_option maxRecDepth 100000 in
theorem gv_18_1 : g_okc cJ7_copyOf_6403c gi_18_1 = true := by decide +kernel
def gi_18 : List (List (Nat × Instr × Nat)) := [gi_18_0, gi_18_1]
theorem gv_18 : ∀ ch ∈ gi_18, g_okc cJ7_copyOf_6403c ch = true := List.forall_mem_cons.mpr ⟨gv_18_0, List.forall_mem_cons.mpr ⟨gv_18_1, fun _ h => absurd h List.not_mem_nil⟩⟩
def gi_19_0 : List (Nat × Instr × Nat) := [(0, .aload_n 0, 1), (1, .iload_n 1, 1), (2, .aload_n 0, 1), (3, .invokevirtual 86, 3), (6, .invokestatic 300, 3), (9, .areturn, 1)]
set_option maxRecDepth 100000 in
theorem gv_19_0 : g_okc cJ7_copyOf_1904c gi_19_0 = true := by decide +kernel
def gi_19 : List (List (Nat × Instr × Nat)) := [gi_19_0]
theorem gv_19 : ∀ ch ∈ gi_19, g_okc cJ7_copyOf_1904c ch = true := List.forall_mem_cons.mpr ⟨gv_19_0, fun _ h => absurd h List.not_mem_nil⟩
def gi_20_0 : List (Nat × Instr × Nat) := [(0, .aload_n 0, 1), (1, .getfield 9, 3), (4, .arraylength, 1), (5, .istore_n 2, 1), (6, .iload_n 2, 1), (7, .ifCond .gt 13, 3), (10, .aload_n 0, 1), (11, .getfield 9, 3), (14, .getstatic 39, 3), (17, .if_acmp .eq 28, 3), (20, .iload_n 2, 1), (21, .iload_n 1, 1), (22, .iload_n 2, 1), (23, .isub, 1), (24, .iload_n 2, 1), (25, .iconst 1, 1), (26, .ishr, 1), (27, .invokestatic 73, 3), (30, .istore_n 3, 1), (31, .aload_n 0, 1)]
set_option maxRecDepth 100000 in
theorem gv_20_0 : g_okc cJx4a65c_grow_92f84 gi_20_0 = true := by decide +kernel
def gi_20_1 : List (Nat × Instr × Nat) := [(32, .aload_n 0, 1), (33, .getfield 9, 3), (36, .iload_n 3, 1), (37, .invokestatic 66, 3), (40, .dup_x1, 1), (41, .putfield 9, 3), (44, .areturn, 1), (45, .aload_n 0, 1), (46, .bipush 10, 2), (48, .iload_n 1, 1), (49, .invokestatic 79, 3), (52, .anewarray 7, 3), (55, .dup_x1, 1), (56, .putfield 9, 3), (59, .areturn, 1)]
set_option maxRecDepth 100000 in
theorem gv_20_1 : g_okc cJx4a65c_grow_92f84 gi_20_1 = true := by decide +kernel
def gi_20 : List (List (Nat × Instr × Nat)) := [gi_20_0, gi_20_1]
theorem gv_20 : ∀ ch ∈ gi_20, g_okc cJx4a65c_grow_92f84 ch = true := List.forall_mem_cons.mpr ⟨gv_20_0, List.forall_mem_cons.mpr ⟨gv_20_1, fun _ h => absurd h List.not_mem_nil⟩⟩
def gi_21_0 : List (Nat × Instr × Nat) := [(0, .aload_n 0, 1), (1, .aload_n 0, 1), (2, .getfield 48, 3), (5, .iconst 1, 1), (6, .iadd, 1), (7, .invokevirtual 69, 3), (10, .areturn, 1)]
set_option maxRecDepth 100000 in
theorem gv_21_0 : g_okc cJx4a65c_grow_d5877 gi_21_0 = true := by decide +kernel
def gi_21 : List (List (Nat × Instr × Nat)) := [gi_21_0]
theorem gv_21 : ∀ ch ∈ gi_21, g_okc cJx4a65c_grow_d5877 ch = true := List.forall_mem_cons.mpr ⟨gv_21_0, fun _ h => absurd h List.not_mem_nil⟩
def gi_22_0 : List (Nat × Instr × Nat) := [(0, .iload_n 3, 1), (1, .aload_n 2, 1), (2, .arraylength, 1), (3, .if_icmp .ne 8, 3), (6, .aload_n 0, 1), (7, .invokevirtual 129, 3), (10, .astore_n 2, 1), (11, .aload_n 2, 1), (12, .iload_n 3, 1), (13, .aload_n 1, 1), (14, .aastore, 1), (15, .aload_n 0, 1), (16, .iload_n 3, 1), (17, .iconst 1, 1), (18, .iadd, 1), (19, .putfield 48, 3), (22, .return_, 1)]
set_option maxRecDepth 100000 in
theorem gv_22_0 : g_okc cJx4a65c_add_72be8 gi_22_0 = true := by decide +kernel
def gi_22 : List (List (Nat × Instr × Nat)) := [gi_22_0]
theorem gv_22 : ∀ ch ∈ gi_22, g_okc cJx4a65c_add_72be8 ch = true := List.forall_mem_cons.mpr ⟨gv_22_0, fun _ h => absurd h List.not_mem_nil⟩
def gi_23_0 : List (Nat × Instr × Nat) := [(0, .aload_n 0, 1), (1, .dup, 1), (2, .getfield 63, 3), (5, .iconst 1, 1), (6, .iadd, 1), (7, .putfield 63, 3), (10, .aload_n 0, 1), (11, .aload_n 1, 1), (12, .aload_n 0, 1), (13, .getfield 9, 3), (16, .aload_n 0, 1), (17, .getfield 48, 3), (20, .invokevirtual 131, 3), (23, .iconst 1, 1), (24, .ireturn, 1)]
set_option maxRecDepth 100000 in
theorem gv_23_0 : g_okc cJx4a65c_add_9ea2d gi_23_0 = true := by decide +kernel
def gi_23 : List (List (Nat × Instr × Nat)) := [gi_23_0]
theorem gv_23 : ∀ ch ∈ gi_23, g_okc cJx4a65c_add_9ea2d ch = true := List.forall_mem_cons.mpr ⟨gv_23_0, fun _ h => absurd h List.not_mem_nil⟩
def gi_24_0 : List (Nat × Instr × Nat) := [(0, .aload_n 0, 1), (1, .iconst 0, 1), (2, .putfield 23, 3), (5, .iload_n 2, 1), (6, .bipush 10, 2), (8, .sipush 300, 3), (11, .invokestatic 34, 3), (14, .ifCond .ne 9, 3), (17, .aload_n 0, 1), (18, .iconst 1, 1), (19, .invokevirtual 41, 3), (22, .ireturn, 1), (23, .aload_n 0, 1), (24, .getfield 19, 3), (27, .getfield 27, 3), (30, .invokevirtual 30, 3)]
set_option maxRecDepth 100000 in
theorem gv_24_0 : g_okc cX7_bar gi_24_0 = true := by decide +kernel
def gi_24_1 : List (Nat × Instr × Nat) := [(33, .bipush 8, 2), (35, .if_icmp .ne 9, 3), (38, .aload_n 0, 1), (39, .iconst 2, 1), (40, .invokevirtual 41, 3), (43, .ireturn, 1), (44, .bipush 12, 2), (46, .newarray .int, 2), (48, .astore_n 3, 1), (49, .aload_n 3, 1), (50, .iconst 0, 1), (51, .iload_n 1, 1), (52, .ifCond .eq 7, 3), (55, .iconst 1, 1), (56, .goto 4, 3), (59, .iconst 0, 1), (60, .iastore, 1), (61, .aload_n 3, 1), (62, .iconst 1, 1), (63, .iload_n 2, 1)]
set_option maxRecDepth 100000 in
theorem gv_24_1 : g_okc cX7_bar gi_24_1 = true := by decide +kernel
def gi_24_2 : List (Nat × Instr × Nat) := [(64, .iastore, 1), (65, .aload_n 3, 1), (66, .iconst 5, 1), (67, .iconst 1, 1), (68, .iastore, 1), (69, .aload_n 0, 1), (70, .getfield 19, 3), (73, .getfield 27, 3), (76, .aload_n 3, 1), (77, .invokevirtual 45, 3), (80, .pop, 1), (81, .aload_n 0, 1), (82, .getfield 19, 3), (85, .getfield 27, 3), (88, .invokevirtual 30, 3), (91, .iconst 1, 1), (92, .isub, 1), (93, .ireturn, 1)]
set_option maxRecDepth 100000 in
theorem gv_24_2 : g_okc cX7_bar gi_24_2 = true := by decide +kernel
def gi_24 : List (List (Nat × Instr × Nat)) := [gi_24_0, gi_24_1, gi_24_2]
theorem gv_24 : ∀ ch ∈ gi_24, g_okc cX7_bar ch = true := List.forall_mem_cons.mpr ⟨gv_24_0, List.forall_mem_cons.mpr ⟨gv_24_1, List.forall_mem_cons.mpr ⟨gv_24_2, fun _ h => absurd h List.not_mem_nil⟩⟩⟩
def gi_25_0 : List (Nat × Instr × Nat) := [(0, .aload_n 0, 1), (1, .getfield 23, 3), (4, .ireturn, 1)]
set_option maxRecDepth 100000 in
theorem gv_25_0 : g_okc cX7_thrown gi_25_0 = true := by decide +kernel
def gi_25 : List (List (Nat × Instr × Nat)) := [gi_25_0]
theorem gv_25 : ∀ ch ∈ gi_25, g_okc cX7_thrown ch = true := List.forall_mem_cons.mpr ⟨gv_25_0, fun _ h => absurd h List.not_mem_nil⟩
def gi_26_0 : List (Nat × Instr × Nat) := [(0, .iload_n 1, 1), (1, .iconst 1, 1), (2, .if_icmp .lt 9, 3), (5, .iload_n 1, 1), (6, .bipush 90, 2), (8, .if_icmp .le 13, 3), (11, .new 30, 3), (14, .dup, 1), (15, .ldc 62, 2), (17, .invokespecial 34, 3), (20, .athrow, 1), (21, .iload_n 2, 1), (22, .ifCond .lt 9, 3), (25, .iload_n 2, 1), (26, .bipush 60, 2), (28, .if_icmp .le 13, 3), (31, .new 30, 3)]
set_option maxRecDepth 100000 in
theorem gv_26_0 : g_okc cX5_piece gi_26_0 = true := by decide +kernel
def gi_26_1 : List (Nat × Instr × Nat) := [(34, .dup, 1), (35, .ldc 64, 2), (37, .invokespecial 34, 3), (40, .athrow, 1), (41, .iload_n 3, 1), (42, .ifCond .lt 8, 3), (45, .iload_n 3, 1), (46, .iconst 2, 1), (47, .if_icmp .le 13, 3), (50, .new 30, 3), (53, .dup, 1), (54, .ldc 66, 2), (56, .invokespecial 34, 3), (59, .athrow, 1), (60, .aload_n 0, 1), (61, .getfield 68, 3)]
set_option maxRecDepth 100000 in
theorem gv_26_1 : g_okc cX5_piece gi_26_1 = true := by decide +kernel
def gi_26_2 : List (Nat × Instr × Nat) := [(64, .bipush 10, 2), (66, .if_icmp .lt 13, 3), (69, .new 41, 3), (72, .dup, 1), (73, .ldc 71, 2), (75, .invokespecial 45, 3), (78, .athrow, 1), (79, .aload_n 0, 1), (80, .getfield 21, 3), (83, .aload_n 0, 1), (84, .getfield 68, 3), (87, .aaload, 1), (88, .astore 4, 2), (90, .aload 4, 2), (92, .iload_n 1, 1), (93, .putfield 73, 3)]
set_option maxRecDepth 100000 in
theorem gv_26_2 : g_okc cX5_piece gi_26_2 = true := by decide +kernel
def gi_26_3 : List (Nat × Instr × Nat) := [(96, .aload 4, 2), (98, .iload_n 2, 1), (99, .putfield 76, 3), (102, .aload 4, 2), (104, .iload_n 3, 1), (105, .putfield 79, 3), (108, .aload_n 0, 1), (109, .dup, 1), (110, .getfield 68, 3), (113, .dup_x1, 1), (114, .iconst 1, 1), (115, .iadd, 1), (116, .putfield 68, 3), (119, .ireturn, 1)]
set_option maxRecDepth 100000 in
theorem gv_26_3 : g_okc cX5_piece gi_26_3 = true := by decide +kernel
def gi_26 : List (List (Nat × Instr × Nat)) := [gi_26_0, gi_26_1, gi_26_2, gi_26_3]
theorem gv_26 : ∀ ch ∈ gi_26, g_okc cX5_piece ch = true := List.forall_mem_cons.mpr ⟨gv_26_0, List.forall_mem_cons.mpr ⟨gv_26_1, List.forall_mem_cons.mpr ⟨gv_26_2, List.forall_mem_cons.mpr ⟨gv_26_3, fun _ h => absurd h List.not_mem_nil⟩⟩⟩⟩
def gi_27_0 : List (Nat × Instr × Nat) := [(0, .aload 4, 2), (2, .iconst 0, 1), (3, .aload_n 0, 1), (4, .iload_n 1, 1), (5, .iload_n 2, 1), (6, .iload_n 3, 1), (7, .invokevirtual 17, 3), (10, .i2l, 1), (11, .lastore, 1), (12, .goto 11, 3), (15, .astore 5, 2), (17, .iconst 1, 1), (18, .ireturn, 1), (19, .astore 5, 2), (21, .iconst 2, 1), (22, .ireturn, 1), (23, .iconst 0, 1), (24, .ireturn, 1)]
set_option maxRecDepth 100000 in
theorem gv_27_0 : g_okc cL_piece gi_27_0 = true := by decide +kernel
def gi_27 : List (List (Nat × Instr × Nat)) := [gi_27_0]
theorem gv_27 : ∀ ch ∈ gi_27, g_okc cL_piece ch = true := List.forall_mem_cons.mpr ⟨gv_27_0, fun _ h => absurd h List.not_mem_nil⟩
def gi_28_0 : List (Nat × Instr × Nat) := [(0, .aload_n 0, 1), (1, .iconst 0, 1), (2, .putfield 23, 3), (5, .iload_n 1, 1), (6, .iconst 1, 1), (7, .bipush 90, 2), (9, .invokestatic 34, 3), (12, .ifCond .eq 22, 3), (15, .iload_n 2, 1), (16, .iconst 0, 1), (17, .bipush 60, 2), (19, .invokestatic 34, 3), (22, .ifCond .eq 12, 3), (25, .iload_n 3, 1), (26, .iconst 0, 1), (27, .iconst 2, 1), (28, .invokestatic 34, 3), (31, .ifCond .ne 9, 3)]
set_option maxRecDepth 100000 in
theorem gv_28_0 : g_okc cX7_piece gi_28_0 = true := by decide +kernel
def gi_28_1 : List (Nat × Instr × Nat) := [(34, .aload_n 0, 1), (35, .iconst 1, 1), (36, .invokevirtual 41, 3), (39, .ireturn, 1), (40, .aload_n 0, 1), (41, .getfield 10, 3), (44, .invokevirtual 30, 3), (47, .bipush 10, 2), (49, .if_icmp .ne 9, 3), (52, .aload_n 0, 1), (53, .iconst 2, 1), (54, .invokevirtual 41, 3), (57, .ireturn, 1), (58, .iconst 4, 1), (59, .newarray .int, 2), (61, .dup, 1), (62, .iconst 0, 1), (63, .iload_n 1, 1)]
set_option maxRecDepth 100000 in
theorem gv_28_1 : g_okc cX7_piece gi_28_1 = true := by decide +kernel
def gi_28_2 : List (Nat × Instr × Nat) := [(64, .iastore, 1), (65, .dup, 1), (66, .iconst 1, 1), (67, .iload_n 2, 1), (68, .iastore, 1), (69, .dup, 1), (70, .iconst 2, 1), (71, .iload_n 3, 1), (72, .iastore, 1), (73, .dup, 1), (74, .iconst 3, 1), (75, .iconst (-1), 1), (76, .iastore, 1), (77, .astore 4, 2), (79, .aload_n 0, 1), (80, .getfield 10, 3), (83, .aload 4, 2), (85, .invokevirtual 45, 3), (88, .pop, 1), (89, .aload_n 0, 1), (90, .getfield 10, 3), (93, .invokevirtual 30, 3)]
set_option maxRecDepth 100000 in
theorem gv_28_2 : g_okc cX7_piece gi_28_2 = true := by decide +kernel
def gi_28_3 : List (Nat × Instr × Nat) := [(96, .iconst 1, 1), (97, .isub, 1), (98, .ireturn, 1)]
set_option maxRecDepth 100000 in
theorem gv_28_3 : g_okc cX7_piece gi_28_3 = true := by decide +kernel
def gi_28 : List (List (Nat × Instr × Nat)) := [gi_28_0, gi_28_1, gi_28_2, gi_28_3]
theorem gv_28 : ∀ ch ∈ gi_28, g_okc cX7_piece ch = true := List.forall_mem_cons.mpr ⟨gv_28_0, List.forall_mem_cons.mpr ⟨gv_28_1, List.forall_mem_cons.mpr ⟨gv_28_2, List.forall_mem_cons.mpr ⟨gv_28_3, fun _ h => absurd h List.not_mem_nil⟩⟩⟩⟩
def gi_29_0 : List (Nat × Instr × Nat) := [(0, .iload_n 1, 1), (1, .iconst (-1), 1), (2, .if_icmp .lt 9, 3), (5, .iload_n 1, 1), (6, .bipush 6, 2), (8, .if_icmp .lt 13, 3), (11, .new 30, 3), (14, .dup, 1), (15, .ldc 82, 2), (17, .invokespecial 34, 3), (20, .athrow, 1), (21, .aload_n 0, 1), (22, .getfield 10, 3), (25, .getfield 84, 3), (28, .bipush 6, 2), (30, .if_icmp .lt 13, 3)]
set_option maxRecDepth 100000 in
theorem gv_29_0 : g_okc cX5_cue gi_29_0 = true := by decide +kernel
def gi_29_1 : List (Nat × Instr × Nat) := [(33, .new 41, 3), (36, .dup, 1), (37, .ldc 87, 2), (39, .invokespecial 45, 3), (42, .athrow, 1), (43, .aload_n 0, 1), (44, .getfield 10, 3), (47, .getfield 89, 3), (50, .aload_n 0, 1), (51, .getfield 10, 3), (54, .getfield 84, 3), (57, .aaload, 1), (58, .iload_n 1, 1), (59, .putfield 93, 3), (62, .aload_n 0, 1), (63, .getfield 10, 3)]
set_option maxRecDepth 100000 in
theorem gv_29_1 : g_okc cX5_cue gi_29_1 = true := by decide +kernel
def gi_29_2 : List (Nat × Instr × Nat) := [(66, .dup, 1), (67, .getfield 84, 3), (70, .dup_x1, 1), (71, .iconst 1, 1), (72, .iadd, 1), (73, .putfield 84, 3), (76, .ireturn, 1)]
set_option maxRecDepth 100000 in
theorem gv_29_2 : g_okc cX5_cue gi_29_2 = true := by decide +kernel
def gi_29 : List (List (Nat × Instr × Nat)) := [gi_29_0, gi_29_1, gi_29_2]
theorem gv_29 : ∀ ch ∈ gi_29, g_okc cX5_cue ch = true := List.forall_mem_cons.mpr ⟨gv_29_0, List.forall_mem_cons.mpr ⟨gv_29_1, List.forall_mem_cons.mpr ⟨gv_29_2, fun _ h => absurd h List.not_mem_nil⟩⟩⟩
def gi_30_0 : List (Nat × Instr × Nat) := [(0, .aload_n 2, 1), (1, .iconst 0, 1), (2, .aload_n 0, 1), (3, .iload_n 1, 1), (4, .invokevirtual 21, 3), (7, .i2l, 1), (8, .lastore, 1), (9, .goto 9, 3), (12, .astore_n 3, 1), (13, .iconst 1, 1), (14, .ireturn, 1), (15, .astore_n 3, 1), (16, .iconst 2, 1), (17, .ireturn, 1), (18, .iconst 0, 1), (19, .ireturn, 1)]
set_option maxRecDepth 100000 in
theorem gv_30_0 : g_okc cL_cue gi_30_0 = true := by decide +kernel
def gi_30 : List (List (Nat × Instr × Nat)) := [gi_30_0]
theorem gv_30 : ∀ ch ∈ gi_30, g_okc cL_cue ch = true := List.forall_mem_cons.mpr ⟨gv_30_0, fun _ h => absurd h List.not_mem_nil⟩
def gi_31_0 : List (Nat × Instr × Nat) := [(0, .aload_n 0, 1), (1, .iconst 0, 1), (2, .putfield 23, 3), (5, .iload_n 1, 1), (6, .iconst (-1), 1), (7, .iconst 5, 1), (8, .invokestatic 34, 3), (11, .ifCond .ne 9, 3), (14, .aload_n 0, 1), (15, .iconst 1, 1), (16, .invokevirtual 41, 3), (19, .ireturn, 1), (20, .aload_n 0, 1), (21, .getfield 19, 3), (24, .getfield 38, 3), (27, .invokevirtual 30, 3), (30, .bipush 6, 2)]
set_option maxRecDepth 100000 in
theorem gv_31_0 : g_okc cX7_cue gi_31_0 = true := by decide +kernel
def gi_31_1 : List (Nat × Instr × Nat) := [(32, .if_icmp .ne 9, 3), (35, .aload_n 0, 1), (36, .iconst 2, 1), (37, .invokevirtual 41, 3), (40, .ireturn, 1), (41, .aload_n 0, 1), (42, .getfield 19, 3), (45, .getfield 49, 3), (48, .aload_n 0, 1), (49, .getfield 19, 3), (52, .getfield 38, 3), (55, .invokevirtual 30, 3), (58, .iload_n 1, 1), (59, .iastore, 1), (60, .aload_n 0, 1), (61, .getfield 19, 3)]
set_option maxRecDepth 100000 in
theorem gv_31_1 : g_okc cX7_cue gi_31_1 = true := by decide +kernel
def gi_31_2 : List (Nat × Instr × Nat) := [(64, .getfield 38, 3), (67, .new 7, 3), (70, .dup, 1), (71, .invokespecial 9, 3), (74, .invokevirtual 45, 3), (77, .pop, 1), (78, .aload_n 0, 1), (79, .getfield 19, 3), (82, .getfield 38, 3), (85, .invokevirtual 30, 3), (88, .iconst 1, 1), (89, .isub, 1), (90, .ireturn, 1)]
set_option maxRecDepth 100000 in
theorem gv_31_2 : g_okc cX7_cue gi_31_2 = true := by decide +kernel
def gi_31 : List (List (Nat × Instr × Nat)) := [gi_31_0, gi_31_1, gi_31_2]
theorem gv_31 : ∀ ch ∈ gi_31, g_okc cX7_cue ch = true := List.forall_mem_cons.mpr ⟨gv_31_0, List.forall_mem_cons.mpr ⟨gv_31_1, List.forall_mem_cons.mpr ⟨gv_31_2, fun _ h => absurd h List.not_mem_nil⟩⟩⟩
def gi_32_0 : List (Nat × Instr × Nat) := [(0, .iload_n 1, 1), (1, .ifCond .lt 11, 3), (4, .iload_n 1, 1), (5, .aload_n 0, 1), (6, .getfield 44, 3), (9, .if_icmp .lt 13, 3), (12, .new 84, 3), (15, .dup, 1), (16, .ldc 91, 2), (18, .invokespecial 88, 3), (21, .athrow, 1), (22, .aload_n 0, 1), (23, .getfield 32, 3), (26, .iload_n 1, 1), (27, .aaload, 1), (28, .areturn, 1)]
set_option maxRecDepth 100000 in
theorem gv_32_0 : g_okc cX4_cueAt gi_32_0 = true := by decide +kernel
def gi_32 : List (List (Nat × Instr × Nat)) := [gi_32_0]
theorem gv_32 : ∀ ch ∈ gi_32, g_okc cX4_cueAt ch = true := List.forall_mem_cons.mpr ⟨gv_32_0, fun _ h => absurd h List.not_mem_nil⟩
def gi_33_0 : List (Nat × Instr × Nat) := [(0, .iload_n 1, 1), (1, .ifCond .lt 11, 3), (4, .iload_n 1, 1), (5, .aload_n 0, 1), (6, .getfield 37, 3), (9, .if_icmp .lt 13, 3), (12, .new 84, 3), (15, .dup, 1), (16, .ldc 86, 2), (18, .invokespecial 88, 3), (21, .athrow, 1), (22, .aload_n 0, 1), (23, .getfield 23, 3), (26, .iload_n 1, 1), (27, .aaload, 1), (28, .areturn, 1)]
set_option maxRecDepth 100000 in
theorem gv_33_0 : g_okc cX4_barAt gi_33_0 = true := by decide +kernel
def gi_33 : List (List (Nat × Instr × Nat)) := [gi_33_0]
theorem gv_33 : ∀ ch ∈ gi_33, g_okc cX4_barAt ch = true := List.forall_mem_cons.mpr ⟨gv_33_0, fun _ h => absurd h List.not_mem_nil⟩
def gi_34_0 : List (Nat × Instr × Nat) := [(0, .iconst 0, 1), (1, .istore_n 2, 1), (2, .iload_n 2, 1), (3, .aload_n 0, 1), (4, .getfield 22, 3), (7, .if_icmp .ge 24, 3), (10, .aload_n 0, 1), (11, .getfield 17, 3), (14, .iload_n 2, 1), (15, .aaload, 1), (16, .getfield 36, 3), (19, .iload_n 1, 1), (20, .if_icmp .ne 5, 3), (23, .iconst 1, 1), (24, .ireturn, 1), (25, .iinc 2 1, 3), (28, .goto (-26), 3), (31, .iconst 0, 1)]
set_option maxRecDepth 100000 in
theorem gv_34_0 : g_okc cX1_hasMoveOf gi_34_0 = true := by decide +kernel
def gi_34_1 : List (Nat × Instr × Nat) := [(32, .ireturn, 1)]
set_option maxRecDepth 100000 in
theorem gv_34_1 : g_okc cX1_hasMoveOf gi_34_1 = true := by decide +kernel
def gi_34 : List (List (Nat × Instr × Nat)) := [gi_34_0, gi_34_1]
theorem gv_34 : ∀ ch ∈ gi_34, g_okc cX1_hasMoveOf ch = true := List.forall_mem_cons.mpr ⟨gv_34_0, List.forall_mem_cons.mpr ⟨gv_34_1, fun _ h => absurd h List.not_mem_nil⟩⟩
def gi_35_0 : List (Nat × Instr × Nat) := [(0, .aload_n 0, 1), (1, .getfield 10, 3), (4, .iload_n 1, 1), (5, .invokevirtual 98, 3), (8, .astore 6, 2), (10, .aload_n 0, 1), (11, .getfield 10, 3), (14, .iload_n 2, 1), (15, .invokevirtual 102, 3), (18, .astore 7, 2), (20, .iload_n 3, 1), (21, .ifCond .lt 9, 3), (24, .iload_n 3, 1), (25, .bipush 120, 2), (27, .if_icmp .le 13, 3), (30, .new 30, 3)]
set_option maxRecDepth 100000 in
theorem gv_35_0 : g_okc cX5_move gi_35_0 = true := by decide +kernel
def gi_35_1 : List (Nat × Instr × Nat) := [(33, .dup, 1), (34, .ldc 106, 2), (36, .invokespecial 34, 3), (39, .athrow, 1), (40, .iload 4, 2), (42, .iconst 1, 1), (43, .if_icmp .lt 10, 3), (46, .iload 4, 2), (48, .bipush 6, 2), (50, .if_icmp .le 13, 3), (53, .new 30, 3), (56, .dup, 1), (57, .ldc 108, 2), (59, .invokespecial 34, 3), (62, .athrow, 1), (63, .iload 5, 2)]
set_option maxRecDepth 100000 in
theorem gv_35_1 : g_okc cX5_move gi_35_1 = true := by decide +kernel
def gi_35_2 : List (Nat × Instr × Nat) := [(65, .ifCond .lt 10, 3), (68, .iload 5, 2), (70, .bipush 20, 2), (72, .if_icmp .le 13, 3), (75, .new 30, 3), (78, .dup, 1), (79, .ldc 110, 2), (81, .invokespecial 34, 3), (84, .athrow, 1), (85, .aload_n 0, 1), (86, .getfield 10, 3), (89, .getfield 112, 3), (92, .iload_n 1, 1), (93, .if_icmp .ne 13, 3)]
set_option maxRecDepth 100000 in
theorem gv_35_2 : g_okc cX5_move gi_35_2 = true := by decide +kernel
def gi_35_3 : List (Nat × Instr × Nat) := [(96, .new 41, 3), (99, .dup, 1), (100, .ldc 115, 2), (102, .invokespecial 45, 3), (105, .athrow, 1), (106, .aload 6, 2), (108, .getfield 117, 3), (111, .bipush 6, 2), (113, .if_icmp .lt 13, 3), (116, .new 41, 3), (119, .dup, 1), (120, .ldc 120, 2), (122, .invokespecial 45, 3), (125, .athrow, 1), (126, .aload 6, 2)]
set_option maxRecDepth 100000 in
theorem gv_35_3 : g_okc cX5_move gi_35_3 = true := by decide +kernel
def gi_35_4 : List (Nat × Instr × Nat) := [(128, .aload 7, 2), (130, .getfield 59, 3), (133, .invokevirtual 122, 3), (136, .ifCond .eq 13, 3), (139, .new 41, 3), (142, .dup, 1), (143, .ldc 126, 2), (145, .invokespecial 45, 3), (148, .athrow, 1), (149, .aload 6, 2), (151, .getfield 128, 3), (154, .aload 6, 2), (156, .getfield 117, 3), (159, .aaload, 1)]
set_option maxRecDepth 100000 in
theorem gv_35_4 : g_okc cX5_move gi_35_4 = true := by decide +kernel
def gi_35_5 : List (Nat × Instr × Nat) := [(160, .astore 8, 2), (162, .aload 8, 2), (164, .aload 7, 2), (166, .getfield 59, 3), (169, .putfield 132, 3), (172, .aload 8, 2), (174, .iload_n 3, 1), (175, .putfield 137, 3), (178, .aload 8, 2), (180, .iload 4, 2), (182, .putfield 140, 3), (185, .aload 8, 2), (187, .iload 5, 2), (189, .putfield 143, 3)]
set_option maxRecDepth 100000 in
theorem gv_35_5 : g_okc cX5_move gi_35_5 = true := by decide +kernel
def gi_35_6 : List (Nat × Instr × Nat) := [(192, .aload 6, 2), (194, .dup, 1), (195, .getfield 117, 3), (198, .dup_x1, 1), (199, .iconst 1, 1), (200, .iadd, 1), (201, .putfield 117, 3), (204, .ireturn, 1)]
set_option maxRecDepth 100000 in
theorem gv_35_6 : g_okc cX5_move gi_35_6 = true := by decide +kernel
def gi_35 : List (List (Nat × Instr × Nat)) := [gi_35_0, gi_35_1, gi_35_2, gi_35_3, gi_35_4, gi_35_5, gi_35_6]
theorem gv_35 : ∀ ch ∈ gi_35, g_okc cX5_move ch = true := List.forall_mem_cons.mpr ⟨gv_35_0, List.forall_mem_cons.mpr ⟨gv_35_1, List.forall_mem_cons.mpr ⟨gv_35_2, List.forall_mem_cons.mpr ⟨gv_35_3, List.forall_mem_cons.mpr ⟨gv_35_4, List.forall_mem_cons.mpr ⟨gv_35_5, List.forall_mem_cons.mpr ⟨gv_35_6, fun _ h => absurd h List.not_mem_nil⟩⟩⟩⟩⟩⟩⟩
def gi_36_0 : List (Nat × Instr × Nat) := [(0, .aload 6, 2), (2, .iconst 0, 1), (3, .aload_n 0, 1), (4, .iload_n 1, 1), (5, .iload_n 2, 1), (6, .iload_n 3, 1), (7, .iload 4, 2), (9, .iload 5, 2), (11, .invokevirtual 25, 3), (14, .i2l, 1), (15, .lastore, 1), (16, .goto 15, 3), (19, .astore 7, 2), (21, .iconst 1, 1), (22, .ireturn, 1), (23, .astore 7, 2), (25, .iconst 2, 1), (26, .ireturn, 1), (27, .astore 7, 2), (29, .iconst 3, 1), (30, .ireturn, 1), (31, .iconst 0, 1)]
set_option maxRecDepth 100000 in
theorem gv_36_0 : g_okc cL_move gi_36_0 = true := by decide +kernel
def gi_36_1 : List (Nat × Instr × Nat) := [(32, .ireturn, 1)]
set_option maxRecDepth 100000 in
theorem gv_36_1 : g_okc cL_move gi_36_1 = true := by decide +kernel
def gi_36 : List (List (Nat × Instr × Nat)) := [gi_36_0, gi_36_1]
theorem gv_36 : ∀ ch ∈ gi_36, g_okc cL_move ch = true := List.forall_mem_cons.mpr ⟨gv_36_0, List.forall_mem_cons.mpr ⟨gv_36_1, fun _ h => absurd h List.not_mem_nil⟩⟩
def gi_37_0 : List (Nat × Instr × Nat) := [(0, .iload_n 1, 1), (1, .iconst 0, 1), (2, .aload_n 0, 1), (3, .getfield 19, 3), (6, .getfield 38, 3), (9, .invokevirtual 30, 3), (12, .iconst 1, 1), (13, .isub, 1), (14, .invokestatic 34, 3), (17, .ireturn, 1)]
set_option maxRecDepth 100000 in
theorem gv_37_0 : g_okc cX7_isCue gi_37_0 = true := by decide +kernel
def gi_37 : List (List (Nat × Instr × Nat)) := [gi_37_0]
theorem gv_37 : ∀ ch ∈ gi_37, g_okc cX7_isCue ch = true := List.forall_mem_cons.mpr ⟨gv_37_0, fun _ h => absurd h List.not_mem_nil⟩
def gi_38_0 : List (Nat × Instr × Nat) := [(0, .iload_n 1, 1), (1, .iconst 0, 1), (2, .aload_n 0, 1), (3, .getfield 19, 3), (6, .getfield 27, 3), (9, .invokevirtual 30, 3), (12, .iconst 1, 1), (13, .isub, 1), (14, .invokestatic 34, 3), (17, .ireturn, 1)]
set_option maxRecDepth 100000 in
theorem gv_38_0 : g_okc cX7_isBar gi_38_0 = true := by decide +kernel
def gi_38 : List (List (Nat × Instr × Nat)) := [gi_38_0]
theorem gv_38 : ∀ ch ∈ gi_38, g_okc cX7_isBar ch = true := List.forall_mem_cons.mpr ⟨gv_38_0, fun _ h => absurd h List.not_mem_nil⟩
def gi_39_0 : List (Nat × Instr × Nat) := [(0, .iload_n 0, 1), (1, .ifCond .lt 8, 3), (4, .iload_n 0, 1), (5, .iload_n 1, 1), (6, .if_icmp .lt 10, 3), (9, .aload_n 2, 1), (10, .iload_n 0, 1), (11, .iload_n 1, 1), (12, .invokestatic 95, 3), (15, .athrow, 1), (16, .iload_n 0, 1), (17, .ireturn, 1)]
set_option maxRecDepth 100000 in
theorem gv_39_0 : g_okc cJ3_checkIndex_8e157 gi_39_0 = true := by decide +kernel
def gi_39 : List (List (Nat × Instr × Nat)) := [gi_39_0]
theorem gv_39 : ∀ ch ∈ gi_39, g_okc cJ3_checkIndex_8e157 ch = true := List.forall_mem_cons.mpr ⟨gv_39_0, fun _ h => absurd h List.not_mem_nil⟩
def gi_40_0 : List (Nat × Instr × Nat) := [(0, .iload_n 0, 1), (1, .iload_n 1, 1), (2, .aconst_null, 1), (3, .invokestatic 105, 3), (6, .ireturn, 1)]
set_option maxRecDepth 100000 in
theorem gv_40_0 : g_okc cJ15_checkIndex_7cf53 gi_40_0 = true := by decide +kernel
def gi_40 : List (List (Nat × Instr × Nat)) := [gi_40_0]
theorem gv_40 : ∀ ch ∈ gi_40, g_okc cJ15_checkIndex_7cf53 ch = true := List.forall_mem_cons.mpr ⟨gv_40_0, fun _ h => absurd h List.not_mem_nil⟩
def gi_41_0 : List (Nat × Instr × Nat) := [(0, .aload_n 0, 1), (1, .getfield 9, 3), (4, .iload_n 1, 1), (5, .aaload, 1), (6, .areturn, 1)]
set_option maxRecDepth 100000 in
theorem gv_41_0 : g_okc cJx4a65c_elementData_915e3 gi_41_0 = true := by decide +kernel
def gi_41 : List (List (Nat × Instr × Nat)) := [gi_41_0]
theorem gv_41 : ∀ ch ∈ gi_41, g_okc cJx4a65c_elementData_915e3 ch = true := List.forall_mem_cons.mpr ⟨gv_41_0, fun _ h => absurd h List.not_mem_nil⟩
def gi_42_0 : List (Nat × Instr × Nat) := [(0, .iload_n 1, 1), (1, .aload_n 0, 1), (2, .getfield 48, 3), (5, .invokestatic 118, 3), (8, .pop, 1), (9, .aload_n 0, 1), (10, .iload_n 1, 1), (11, .invokevirtual 123, 3), (14, .areturn, 1)]
set_option maxRecDepth 100000 in
theorem gv_42_0 : g_okc cJx4a65c_get_915e3 gi_42_0 = true := by decide +kernel
def gi_42 : List (List (Nat × Instr × Nat)) := [gi_42_0]
theorem gv_42 : ∀ ch ∈ gi_42, g_okc cJx4a65c_get_915e3 ch = true := List.forall_mem_cons.mpr ⟨gv_42_0, fun _ h => absurd h List.not_mem_nil⟩
def gi_43_0 : List (Nat × Instr × Nat) := [(0, .aload_n 0, 1), (1, .aload_n 1, 1), (2, .putfield 1, 3), (5, .aload_n 0, 1), (6, .invokespecial 7, 3), (9, .aload_n 0, 1), (10, .iconst (-1), 1), (11, .putfield 13, 3), (14, .aload_n 0, 1), (15, .aload_n 0, 1), (16, .getfield 1, 3), (19, .getfield 17, 3), (22, .putfield 22, 3), (25, .return_, 1)]
set_option maxRecDepth 100000 in
theorem gv_43_0 : g_okc cJx35411_init_45d68 gi_43_0 = true := by decide +kernel
def gi_43 : List (List (Nat × Instr × Nat)) := [gi_43_0]
theorem gv_43 : ∀ ch ∈ gi_43, g_okc cJx35411_init_45d68 ch = true := List.forall_mem_cons.mpr ⟨gv_43_0, fun _ h => absurd h List.not_mem_nil⟩
def gi_44_0 : List (Nat × Instr × Nat) := [(0, .new 267, 3), (3, .dup, 1), (4, .aload_n 0, 1), (5, .invokespecial 269, 3), (8, .areturn, 1)]
set_option maxRecDepth 100000 in
theorem gv_44_0 : g_okc cJx4a65c_iterator_32c93 gi_44_0 = true := by decide +kernel
def gi_44 : List (List (Nat × Instr × Nat)) := [gi_44_0]
theorem gv_44 : ∀ ch ∈ gi_44, g_okc cJx4a65c_iterator_32c93 ch = true := List.forall_mem_cons.mpr ⟨gv_44_0, fun _ h => absurd h List.not_mem_nil⟩
def gi_45_0 : List (Nat × Instr × Nat) := [(0, .aload_n 0, 1), (1, .getfield 25, 3), (4, .aload_n 0, 1), (5, .getfield 1, 3), (8, .getfield 28, 3), (11, .if_icmp .eq 7, 3), (14, .iconst 1, 1), (15, .goto 4, 3), (18, .iconst 0, 1), (19, .ireturn, 1)]
set_option maxRecDepth 100000 in
theorem gv_45_0 : g_okc cJx35411_hasNext_aae02 gi_45_0 = true := by decide +kernel
def gi_45 : List (List (Nat × Instr × Nat)) := [gi_45_0]
theorem gv_45 : ∀ ch ∈ gi_45, g_okc cJx35411_hasNext_aae02 ch = true := List.forall_mem_cons.mpr ⟨gv_45_0, fun _ h => absurd h List.not_mem_nil⟩
def gi_46_0 : List (Nat × Instr × Nat) := [(0, .aload_n 0, 1), (1, .iconst 0, 1), (2, .putfield 23, 3), (5, .aload_n 0, 1), (6, .iload_n 1, 1), (7, .invokevirtual 53, 3), (10, .ifCond .eq 11, 3), (13, .aload_n 0, 1), (14, .iload_n 2, 1), (15, .invokevirtual 57, 3), (18, .ifCond .ne 9, 3), (21, .aload_n 0, 1), (22, .iconst 1, 1), (23, .invokevirtual 41, 3), (26, .ireturn, 1), (27, .iload_n 3, 1), (28, .iconst 0, 1), (29, .bipush 120, 2), (31, .invokestatic 34, 3)]
set_option maxRecDepth 100000 in
theorem gv_46_0 : g_okc cX7_move gi_46_0 = true := by decide +kernel
def gi_46_1 : List (Nat × Instr × Nat) := [(34, .ifCond .eq 25, 3), (37, .iload 4, 2), (39, .iconst 1, 1), (40, .bipush 6, 2), (42, .invokestatic 34, 3), (45, .ifCond .eq 14, 3), (48, .iload 5, 2), (50, .iconst 0, 1), (51, .bipush 20, 2), (53, .invokestatic 34, 3), (56, .ifCond .ne 9, 3), (59, .aload_n 0, 1), (60, .iconst 2, 1), (61, .invokevirtual 41, 3)]
set_option maxRecDepth 100000 in
theorem gv_46_1 : g_okc cX7_move gi_46_1 = true := by decide +kernel
def gi_46_2 : List (Nat × Instr × Nat) := [(64, .ireturn, 1), (65, .aload_n 0, 1), (66, .getfield 19, 3), (69, .getfield 38, 3), (72, .iload_n 1, 1), (73, .invokevirtual 60, 3), (76, .checkcast 7, 3), (79, .astore 6, 2), (81, .aload_n 0, 1), (82, .getfield 19, 3), (85, .getfield 64, 3), (88, .iload_n 1, 1), (89, .if_icmp .eq 17, 3), (92, .aload 6, 2), (94, .invokevirtual 30, 3)]
set_option maxRecDepth 100000 in
theorem gv_46_2 : g_okc cX7_move gi_46_2 = true := by decide +kernel
def gi_46_3 : List (Nat × Instr × Nat) := [(97, .bipush 6, 2), (99, .if_icmp .ge 7, 3), (102, .iconst 1, 1), (103, .goto 4, 3), (106, .iconst 0, 1), (107, .istore 7, 2), (109, .aload 6, 2), (111, .invokevirtual 67, 3), (114, .astore 8, 2), (116, .aload 8, 2), (118, .invokeinterface 71 1, 5), (123, .ifCond .eq 36, 3), (126, .aload 8, 2)]
set_option maxRecDepth 100000 in
theorem gv_46_3 : g_okc cX7_move gi_46_3 = true := by decide +kernel
def gi_46_4 : List (Nat × Instr × Nat) := [(128, .invokeinterface 77 1, 5), (133, .checkcast 81, 3), (136, .astore 9, 2), (138, .iload 7, 2), (140, .aload 9, 2), (142, .iconst 0, 1), (143, .iaload, 1), (144, .iload_n 2, 1), (145, .if_icmp .eq 7, 3), (148, .iconst 1, 1), (149, .goto 4, 3), (152, .iconst 0, 1), (153, .iand, 1), (154, .istore 7, 2), (156, .goto (-40), 3), (159, .iload 7, 2)]
set_option maxRecDepth 100000 in
theorem gv_46_4 : g_okc cX7_move gi_46_4 = true := by decide +kernel
def gi_46_5 : List (Nat × Instr × Nat) := [(161, .ifCond .ne 9, 3), (164, .aload_n 0, 1), (165, .iconst 3, 1), (166, .invokevirtual 41, 3), (169, .ireturn, 1), (170, .bipush 6, 2), (172, .newarray .int, 2), (174, .dup, 1), (175, .iconst 0, 1), (176, .iload_n 2, 1), (177, .iastore, 1), (178, .dup, 1), (179, .iconst 1, 1), (180, .iload_n 3, 1), (181, .iastore, 1), (182, .dup, 1), (183, .iconst 2, 1), (184, .iload 4, 2), (186, .iastore, 1), (187, .dup, 1), (188, .iconst 3, 1), (189, .iload 5, 2), (191, .iastore, 1)]
set_option maxRecDepth 100000 in
theorem gv_46_5 : g_okc cX7_move gi_46_5 = true := by decide +kernel
def gi_46_6 : List (Nat × Instr × Nat) := [(192, .dup, 1), (193, .iconst 4, 1), (194, .iconst (-1), 1), (195, .iastore, 1), (196, .dup, 1), (197, .iconst 5, 1), (198, .iconst 0, 1), (199, .iastore, 1), (200, .astore 8, 2), (202, .aload 6, 2), (204, .aload 8, 2), (206, .invokevirtual 45, 3), (209, .pop, 1), (210, .aload 6, 2), (212, .invokevirtual 30, 3), (215, .iconst 1, 1), (216, .isub, 1), (217, .ireturn, 1)]
set_option maxRecDepth 100000 in
theorem gv_46_6 : g_okc cX7_move gi_46_6 = true := by decide +kernel
def gi_46 : List (List (Nat × Instr × Nat)) := [gi_46_0, gi_46_1, gi_46_2, gi_46_3, gi_46_4, gi_46_5, gi_46_6]
theorem gv_46 : ∀ ch ∈ gi_46, g_okc cX7_move ch = true := List.forall_mem_cons.mpr ⟨gv_46_0, List.forall_mem_cons.mpr ⟨gv_46_1, List.forall_mem_cons.mpr ⟨gv_46_2, List.forall_mem_cons.mpr ⟨gv_46_3, List.forall_mem_cons.mpr ⟨gv_46_4, List.forall_mem_cons.mpr ⟨gv_46_5, List.forall_mem_cons.mpr ⟨gv_46_6, fun _ h => absurd h List.not_mem_nil⟩⟩⟩⟩⟩⟩⟩
def gi_47_0 : List (Nat × Instr × Nat) := [(0, .iload_n 1, 1), (1, .ifCond .lt 8, 3), (4, .iload_n 1, 1), (5, .iconst 5, 1), (6, .if_icmp .le 13, 3), (9, .new 30, 3), (12, .dup, 1), (13, .ldc 146, 2), (15, .invokespecial 34, 3), (18, .athrow, 1), (19, .aload_n 0, 1), (20, .getfield 10, 3), (23, .getfield 148, 3), (26, .istore_n 2, 1), (27, .aload_n 0, 1), (28, .getfield 10, 3), (31, .iload_n 1, 1)]
set_option maxRecDepth 100000 in
theorem gv_47_0 : g_okc cX5_crew gi_47_0 = true := by decide +kernel
def gi_47_1 : List (Nat × Instr × Nat) := [(32, .putfield 148, 3), (35, .iload_n 2, 1), (36, .ireturn, 1)]
set_option maxRecDepth 100000 in
theorem gv_47_1 : g_okc cX5_crew gi_47_1 = true := by decide +kernel
def gi_47 : List (List (Nat × Instr × Nat)) := [gi_47_0, gi_47_1]
theorem gv_47 : ∀ ch ∈ gi_47, g_okc cX5_crew ch = true := List.forall_mem_cons.mpr ⟨gv_47_0, List.forall_mem_cons.mpr ⟨gv_47_1, fun _ h => absurd h List.not_mem_nil⟩⟩
def gi_48_0 : List (Nat × Instr × Nat) := [(0, .aload_n 2, 1), (1, .iconst 0, 1), (2, .aload_n 0, 1), (3, .iload_n 1, 1), (4, .invokevirtual 31, 3), (7, .i2l, 1), (8, .lastore, 1), (9, .goto 6, 3), (12, .astore_n 3, 1), (13, .iconst 1, 1), (14, .ireturn, 1), (15, .iconst 0, 1), (16, .ireturn, 1)]
set_option maxRecDepth 100000 in
theorem gv_48_0 : g_okc cL_crew gi_48_0 = true := by decide +kernel
def gi_48 : List (List (Nat × Instr × Nat)) := [gi_48_0]
theorem gv_48 : ∀ ch ∈ gi_48, g_okc cL_crew ch = true := List.forall_mem_cons.mpr ⟨gv_48_0, fun _ h => absurd h List.not_mem_nil⟩
def gi_49_0 : List (Nat × Instr × Nat) := [(0, .aload_n 0, 1), (1, .iconst 0, 1), (2, .putfield 23, 3), (5, .iload_n 1, 1), (6, .iconst 0, 1), (7, .iconst 5, 1), (8, .invokestatic 34, 3), (11, .ifCond .ne 9, 3), (14, .aload_n 0, 1), (15, .iconst 1, 1), (16, .invokevirtual 41, 3), (19, .ireturn, 1), (20, .aload_n 0, 1), (21, .getfield 19, 3), (24, .getfield 82, 3), (27, .istore_n 2, 1), (28, .aload_n 0, 1), (29, .getfield 19, 3)]
set_option maxRecDepth 100000 in
theorem gv_49_0 : g_okc cX7_crew gi_49_0 = true := by decide +kernel
def gi_49_1 : List (Nat × Instr × Nat) := [(32, .iload_n 1, 1), (33, .putfield 82, 3), (36, .iload_n 2, 1), (37, .ireturn, 1)]
set_option maxRecDepth 100000 in
theorem gv_49_1 : g_okc cX7_crew gi_49_1 = true := by decide +kernel
def gi_49 : List (List (Nat × Instr × Nat)) := [gi_49_0, gi_49_1]
theorem gv_49 : ∀ ch ∈ gi_49, g_okc cX7_crew ch = true := List.forall_mem_cons.mpr ⟨gv_49_0, List.forall_mem_cons.mpr ⟨gv_49_1, fun _ h => absurd h List.not_mem_nil⟩⟩
def gi_50_0 : List (Nat × Instr × Nat) := [(0, .aload_n 0, 1), (1, .getfield 10, 3), (4, .iload_n 1, 1), (5, .invokevirtual 102, 3), (8, .astore 4, 2), (10, .aload 4, 2), (12, .getfield 151, 3), (15, .istore 5, 2), (17, .aload 4, 2), (19, .iload_n 2, 1), (20, .putfield 151, 3), (23, .aload 4, 2), (25, .iload_n 3, 1), (26, .putfield 154, 3), (29, .iload 5, 2), (31, .ireturn, 1)]
set_option maxRecDepth 100000 in
theorem gv_50_0 : g_okc cX5_below gi_50_0 = true := by decide +kernel
def gi_50 : List (List (Nat × Instr × Nat)) := [gi_50_0]
theorem gv_50 : ∀ ch ∈ gi_50, g_okc cX5_below ch = true := List.forall_mem_cons.mpr ⟨gv_50_0, fun _ h => absurd h List.not_mem_nil⟩
def gi_51_0 : List (Nat × Instr × Nat) := [(0, .aload 4, 2), (2, .iconst 0, 1), (3, .aload_n 0, 1), (4, .iload_n 1, 1), (5, .iload_n 2, 1), (6, .iload_n 3, 1), (7, .invokevirtual 34, 3), (10, .ifCond .eq 7, 3), (13, .lconst 1, 1), (14, .goto 4, 3), (17, .lconst 0, 1), (18, .lastore, 1), (19, .goto 7, 3), (22, .astore 5, 2), (24, .iconst 1, 1), (25, .ireturn, 1), (26, .iconst 0, 1), (27, .ireturn, 1)]
set_option maxRecDepth 100000 in
theorem gv_51_0 : g_okc cL_below gi_51_0 = true := by decide +kernel
def gi_51 : List (List (Nat × Instr × Nat)) := [gi_51_0]
theorem gv_51 : ∀ ch ∈ gi_51, g_okc cL_below ch = true := List.forall_mem_cons.mpr ⟨gv_51_0, fun _ h => absurd h List.not_mem_nil⟩
def gi_52_0 : List (Nat × Instr × Nat) := [(0, .aload_n 0, 1), (1, .aload_n 0, 1), (2, .iload_n 1, 1), (3, .invokevirtual 57, 3), (6, .ifCond .eq 7, 3), (9, .iconst 0, 1), (10, .goto 4, 3), (13, .iconst 1, 1), (14, .putfield 23, 3), (17, .aload_n 0, 1), (18, .getfield 23, 3), (21, .ifCond .le 5, 3), (24, .iconst 0, 1), (25, .ireturn, 1), (26, .aload_n 0, 1), (27, .getfield 19, 3), (30, .getfield 27, 3)]
set_option maxRecDepth 100000 in
theorem gv_52_0 : g_okc cX7_below gi_52_0 = true := by decide +kernel
def gi_52_1 : List (Nat × Instr × Nat) := [(33, .iload_n 1, 1), (34, .invokevirtual 60, 3), (37, .checkcast 81, 3), (40, .astore 4, 2), (42, .aload 4, 2), (44, .iconst 4, 1), (45, .iaload, 1), (46, .iconst 1, 1), (47, .if_icmp .ne 7, 3), (50, .iconst 1, 1), (51, .goto 4, 3), (54, .iconst 0, 1), (55, .istore 5, 2), (57, .aload 4, 2), (59, .iconst 4, 1), (60, .iload_n 2, 1), (61, .ifCond .eq 7, 3)]
set_option maxRecDepth 100000 in
theorem gv_52_1 : g_okc cX7_below gi_52_1 = true := by decide +kernel
def gi_52_2 : List (Nat × Instr × Nat) := [(64, .iconst 1, 1), (65, .goto 4, 3), (68, .iconst 0, 1), (69, .iastore, 1), (70, .aload 4, 2), (72, .iconst 5, 1), (73, .iload_n 3, 1), (74, .ifCond .eq 7, 3), (77, .iconst 1, 1), (78, .goto 4, 3), (81, .iconst 0, 1), (82, .iastore, 1), (83, .iload 5, 2), (85, .ireturn, 1)]
set_option maxRecDepth 100000 in
theorem gv_52_2 : g_okc cX7_below gi_52_2 = true := by decide +kernel
def gi_52 : List (List (Nat × Instr × Nat)) := [gi_52_0, gi_52_1, gi_52_2]
theorem gv_52 : ∀ ch ∈ gi_52, g_okc cX7_below ch = true := List.forall_mem_cons.mpr ⟨gv_52_0, List.forall_mem_cons.mpr ⟨gv_52_1, List.forall_mem_cons.mpr ⟨gv_52_2, fun _ h => absurd h List.not_mem_nil⟩⟩⟩
def gi_53_0 : List (Nat × Instr × Nat) := [(0, .iload_n 1, 1), (1, .ifCond .lt 11, 3), (4, .iload_n 1, 1), (5, .aload_n 0, 1), (6, .getfield 68, 3), (9, .if_icmp .lt 14, 3), (12, .new 329, 3), (15, .dup, 1), (16, .ldc_w 331, 3), (19, .invokespecial 333, 3), (22, .athrow, 1), (23, .aload_n 0, 1), (24, .getfield 21, 3), (27, .iload_n 1, 1), (28, .aaload, 1), (29, .areturn, 1)]
set_option maxRecDepth 100000 in
theorem gv_53_0 : g_okc cX5_pieceAt gi_53_0 = true := by decide +kernel
def gi_53 : List (List (Nat × Instr × Nat)) := [gi_53_0]
theorem gv_53 : ∀ ch ∈ gi_53, g_okc cX5_pieceAt ch = true := List.forall_mem_cons.mpr ⟨gv_53_0, fun _ h => absurd h List.not_mem_nil⟩
def gi_54_0 : List (Nat × Instr × Nat) := [(0, .aload_n 0, 1), (1, .getfield 10, 3), (4, .getfield 112, 3), (7, .iconst (-1), 1), (8, .if_icmp .eq 13, 3), (11, .new 41, 3), (14, .dup, 1), (15, .ldc 189, 2), (17, .invokespecial 45, 3), (20, .athrow, 1), (21, .aload_n 1, 1), (22, .getfield 223, 3), (25, .ifCond .le 14, 3), (28, .new 41, 3), (31, .dup, 1)]
set_option maxRecDepth 100000 in
theorem gv_54_0 : g_okc cX5_refuseUnlessAtRest gi_54_0 = true := by decide +kernel
def gi_54_1 : List (Nat × Instr × Nat) := [(32, .ldc_w 336, 3), (35, .invokespecial 45, 3), (38, .athrow, 1), (39, .return_, 1)]
set_option maxRecDepth 100000 in
theorem gv_54_1 : g_okc cX5_refuseUnlessAtRest gi_54_1 = true := by decide +kernel
def gi_54 : List (List (Nat × Instr × Nat)) := [gi_54_0, gi_54_1]
theorem gv_54 : ∀ ch ∈ gi_54, g_okc cX5_refuseUnlessAtRest ch = true := List.forall_mem_cons.mpr ⟨gv_54_0, List.forall_mem_cons.mpr ⟨gv_54_1, fun _ h => absurd h List.not_mem_nil⟩⟩
def gi_55_0 : List (Nat × Instr × Nat) := [(0, .aload_n 1, 1), (1, .iconst 0, 1), (2, .putfield 168, 3), (5, .aload_n 1, 1), (6, .iconst 0, 1), (7, .putfield 226, 3), (10, .aload_n 1, 1), (11, .iconst 0, 1), (12, .putfield 229, 3), (15, .iconst 0, 1), (16, .istore_n 2, 1), (17, .iload_n 2, 1), (18, .aload_n 0, 1), (19, .getfield 68, 3), (22, .if_icmp .ge 70, 3), (25, .aload_n 0, 1), (26, .getfield 21, 3), (29, .iload_n 2, 1), (30, .aaload, 1), (31, .astore_n 3, 1)]
set_option maxRecDepth 100000 in
theorem gv_55_0 : g_okc cX5_weigh gi_55_0 = true := by decide +kernel
def gi_55_1 : List (Nat × Instr × Nat) := [(32, .aload_n 3, 1), (33, .getfield 161, 3), (36, .aload_n 1, 1), (37, .getfield 59, 3), (40, .if_icmp .ne 46, 3), (43, .aload_n 1, 1), (44, .dup, 1), (45, .getfield 168, 3), (48, .aload_n 3, 1), (49, .getfield 73, 3), (52, .iadd, 1), (53, .putfield 168, 3), (56, .aload_n 1, 1), (57, .aload_n 1, 1), (58, .getfield 226, 3), (61, .aload_n 3, 1), (62, .getfield 76, 3)]
set_option maxRecDepth 100000 in
theorem gv_55_1 : g_okc cX5_weigh gi_55_1 = true := by decide +kernel
def gi_55_2 : List (Nat × Instr × Nat) := [(65, .invokestatic 338, 3), (68, .putfield 226, 3), (71, .aload_n 1, 1), (72, .aload_n 1, 1), (73, .getfield 229, 3), (76, .aload_n 3, 1), (77, .getfield 79, 3), (80, .invokestatic 338, 3), (83, .putfield 229, 3), (86, .iinc 2 1, 3), (89, .goto (-72), 3), (92, .return_, 1)]
set_option maxRecDepth 100000 in
theorem gv_55_2 : g_okc cX5_weigh gi_55_2 = true := by decide +kernel
def gi_55 : List (List (Nat × Instr × Nat)) := [gi_55_0, gi_55_1, gi_55_2]
theorem gv_55 : ∀ ch ∈ gi_55, g_okc cX5_weigh ch = true := List.forall_mem_cons.mpr ⟨gv_55_0, List.forall_mem_cons.mpr ⟨gv_55_1, List.forall_mem_cons.mpr ⟨gv_55_2, fun _ h => absurd h List.not_mem_nil⟩⟩⟩
def gi_56_0 : List (Nat × Instr × Nat) := [(0, .aload_n 0, 1), (1, .iload_n 1, 1), (2, .invokevirtual 157, 3), (5, .astore_n 3, 1), (6, .aload_n 0, 1), (7, .getfield 10, 3), (10, .iload_n 2, 1), (11, .invokevirtual 102, 3), (14, .astore 4, 2), (16, .aload_n 3, 1), (17, .getfield 161, 3), (20, .iconst (-1), 1), (21, .if_icmp .eq 13, 3), (24, .new 41, 3), (27, .dup, 1), (28, .ldc 162, 2), (30, .invokespecial 45, 3)]
set_option maxRecDepth 100000 in
theorem gv_56_0 : g_okc cX5_hang gi_56_0 = true := by decide +kernel
def gi_56_1 : List (Nat × Instr × Nat) := [(33, .athrow, 1), (34, .aload_n 0, 1), (35, .aload 4, 2), (37, .invokevirtual 164, 3), (40, .aload 4, 2), (42, .getfield 168, 3), (45, .aload_n 3, 1), (46, .getfield 73, 3), (49, .iadd, 1), (50, .aload 4, 2), (52, .getfield 56, 3), (55, .if_icmp .le 13, 3), (58, .new 41, 3), (61, .dup, 1), (62, .ldc 171, 2)]
set_option maxRecDepth 100000 in
theorem gv_56_1 : g_okc cX5_hang gi_56_1 = true := by decide +kernel
def gi_56_2 : List (Nat × Instr × Nat) := [(64, .invokespecial 45, 3), (67, .athrow, 1), (68, .aload_n 3, 1), (69, .aload 4, 2), (71, .getfield 59, 3), (74, .putfield 161, 3), (77, .aload_n 0, 1), (78, .aload 4, 2), (80, .invokevirtual 173, 3), (83, .aload 4, 2), (85, .getfield 168, 3), (88, .ireturn, 1)]
set_option maxRecDepth 100000 in
theorem gv_56_2 : g_okc cX5_hang gi_56_2 = true := by decide +kernel
def gi_56 : List (List (Nat × Instr × Nat)) := [gi_56_0, gi_56_1, gi_56_2]
theorem gv_56 : ∀ ch ∈ gi_56, g_okc cX5_hang ch = true := List.forall_mem_cons.mpr ⟨gv_56_0, List.forall_mem_cons.mpr ⟨gv_56_1, List.forall_mem_cons.mpr ⟨gv_56_2, fun _ h => absurd h List.not_mem_nil⟩⟩⟩
def gi_57_0 : List (Nat × Instr × Nat) := [(0, .aload_n 3, 1), (1, .iconst 0, 1), (2, .aload_n 0, 1), (3, .iload_n 1, 1), (4, .iload_n 2, 1), (5, .invokevirtual 38, 3), (8, .i2l, 1), (9, .lastore, 1), (10, .goto 11, 3), (13, .astore 4, 2), (15, .iconst 1, 1), (16, .ireturn, 1), (17, .astore 4, 2), (19, .iconst 2, 1), (20, .ireturn, 1), (21, .iconst 0, 1), (22, .ireturn, 1)]
set_option maxRecDepth 100000 in
theorem gv_57_0 : g_okc cL_hang gi_57_0 = true := by decide +kernel
def gi_57 : List (List (Nat × Instr × Nat)) := [gi_57_0]
theorem gv_57 : ∀ ch ∈ gi_57, g_okc cL_hang ch = true := List.forall_mem_cons.mpr ⟨gv_57_0, fun _ h => absurd h List.not_mem_nil⟩
def gi_58_0 : List (Nat × Instr × Nat) := [(0, .iload_n 1, 1), (1, .iconst 0, 1), (2, .aload_n 0, 1), (3, .getfield 10, 3), (6, .invokevirtual 30, 3), (9, .iconst 1, 1), (10, .isub, 1), (11, .invokestatic 34, 3), (14, .ireturn, 1)]
set_option maxRecDepth 100000 in
theorem gv_58_0 : g_okc cX7_isPiece gi_58_0 = true := by decide +kernel
def gi_58 : List (List (Nat × Instr × Nat)) := [gi_58_0]
theorem gv_58 : ∀ ch ∈ gi_58, g_okc cX7_isPiece ch = true := List.forall_mem_cons.mpr ⟨gv_58_0, fun _ h => absurd h List.not_mem_nil⟩
def gi_59_0 : List (Nat × Instr × Nat) := [(0, .aload_n 0, 1), (1, .getfield 19, 3), (4, .getfield 64, 3), (7, .iconst (-1), 1), (8, .if_icmp .ne 26, 3), (11, .aload_n 0, 1), (12, .getfield 19, 3), (15, .getfield 27, 3), (18, .iload_n 1, 1), (19, .invokevirtual 60, 3), (22, .checkcast 81, 3), (25, .iconst 2, 1), (26, .iaload, 1), (27, .ifCond .ne 7, 3), (30, .iconst 1, 1), (31, .goto 4, 3)]
set_option maxRecDepth 100000 in
theorem gv_59_0 : g_okc cX7_isLow gi_59_0 = true := by decide +kernel
def gi_59_1 : List (Nat × Instr × Nat) := [(34, .iconst 0, 1), (35, .ireturn, 1)]
set_option maxRecDepth 100000 in
theorem gv_59_1 : g_okc cX7_isLow gi_59_1 = true := by decide +kernel
def gi_59 : List (List (Nat × Instr × Nat)) := [gi_59_0, gi_59_1]
theorem gv_59 : ∀ ch ∈ gi_59, g_okc cX7_isLow ch = true := List.forall_mem_cons.mpr ⟨gv_59_0, List.forall_mem_cons.mpr ⟨gv_59_1, fun _ h => absurd h List.not_mem_nil⟩⟩
def gi_60_0 : List (Nat × Instr × Nat) := [(0, .aload_n 0, 1), (1, .getfield 19, 3), (4, .getfield 27, 3), (7, .iload_n 1, 1), (8, .invokevirtual 60, 3), (11, .checkcast 81, 3), (14, .astore_n 2, 1), (15, .aload_n 2, 1), (16, .bipush 8, 2), (18, .iconst 0, 1), (19, .iastore, 1), (20, .aload_n 2, 1), (21, .bipush 9, 2), (23, .iconst 0, 1), (24, .iastore, 1), (25, .aload_n 2, 1), (26, .bipush 10, 2), (28, .iconst 0, 1), (29, .iastore, 1), (30, .aload_n 0, 1), (31, .getfield 10, 3)]
set_option maxRecDepth 100000 in
theorem gv_60_0 : g_okc cX7_weigh gi_60_0 = true := by decide +kernel
def gi_60_1 : List (Nat × Instr × Nat) := [(34, .invokevirtual 67, 3), (37, .astore_n 3, 1), (38, .aload_n 3, 1), (39, .invokeinterface 71 1, 5), (44, .ifCond .eq 69, 3), (47, .aload_n 3, 1), (48, .invokeinterface 77 1, 5), (53, .checkcast 81, 3), (56, .astore 4, 2), (58, .aload 4, 2), (60, .iconst 3, 1), (61, .iaload, 1), (62, .iload_n 1, 1), (63, .if_icmp .eq 6, 3)]
set_option maxRecDepth 100000 in
theorem gv_60_1 : g_okc cX7_weigh gi_60_1 = true := by decide +kernel
def gi_60_2 : List (Nat × Instr × Nat) := [(66, .goto (-28), 3), (69, .aload_n 2, 1), (70, .bipush 8, 2), (72, .dup2, 1), (73, .iaload, 1), (74, .aload 4, 2), (76, .iconst 0, 1), (77, .iaload, 1), (78, .iadd, 1), (79, .iastore, 1), (80, .aload_n 2, 1), (81, .bipush 9, 2), (83, .aload_n 2, 1), (84, .bipush 9, 2), (86, .iaload, 1), (87, .aload 4, 2), (89, .iconst 1, 1), (90, .iaload, 1), (91, .invokestatic 85, 3), (94, .iastore, 1), (95, .aload_n 2, 1)]
set_option maxRecDepth 100000 in
theorem gv_60_2 : g_okc cX7_weigh gi_60_2 = true := by decide +kernel
def gi_60_3 : List (Nat × Instr × Nat) := [(96, .bipush 10, 2), (98, .aload_n 2, 1), (99, .bipush 10, 2), (101, .iaload, 1), (102, .aload 4, 2), (104, .iconst 2, 1), (105, .iaload, 1), (106, .invokestatic 85, 3), (109, .iastore, 1), (110, .goto (-72), 3), (113, .return_, 1)]
set_option maxRecDepth 100000 in
theorem gv_60_3 : g_okc cX7_weigh gi_60_3 = true := by decide +kernel
def gi_60 : List (List (Nat × Instr × Nat)) := [gi_60_0, gi_60_1, gi_60_2, gi_60_3]
theorem gv_60 : ∀ ch ∈ gi_60, g_okc cX7_weigh ch = true := List.forall_mem_cons.mpr ⟨gv_60_0, List.forall_mem_cons.mpr ⟨gv_60_1, List.forall_mem_cons.mpr ⟨gv_60_2, List.forall_mem_cons.mpr ⟨gv_60_3, fun _ h => absurd h List.not_mem_nil⟩⟩⟩⟩
def gi_61_0 : List (Nat × Instr × Nat) := [(0, .aload_n 0, 1), (1, .iconst 0, 1), (2, .putfield 23, 3), (5, .aload_n 0, 1), (6, .iload_n 1, 1), (7, .invokevirtual 91, 3), (10, .ifCond .eq 11, 3), (13, .aload_n 0, 1), (14, .iload_n 2, 1), (15, .invokevirtual 57, 3), (18, .ifCond .ne 9, 3), (21, .aload_n 0, 1), (22, .iconst 1, 1), (23, .invokevirtual 41, 3), (26, .ireturn, 1), (27, .aload_n 0, 1), (28, .getfield 10, 3), (31, .iload_n 1, 1)]
set_option maxRecDepth 100000 in
theorem gv_61_0 : g_okc cX7_hang gi_61_0 = true := by decide +kernel
def gi_61_1 : List (Nat × Instr × Nat) := [(32, .invokevirtual 60, 3), (35, .checkcast 81, 3), (38, .astore_n 3, 1), (39, .aload_n 0, 1), (40, .getfield 19, 3), (43, .getfield 27, 3), (46, .iload_n 2, 1), (47, .invokevirtual 60, 3), (50, .checkcast 81, 3), (53, .astore 4, 2), (55, .aload_n 3, 1), (56, .iconst 3, 1), (57, .iaload, 1), (58, .iconst (-1), 1), (59, .if_icmp .ne 27, 3), (62, .aload_n 0, 1), (63, .iload_n 2, 1)]
set_option maxRecDepth 100000 in
theorem gv_61_1 : g_okc cX7_hang gi_61_1 = true := by decide +kernel
def gi_61_2 : List (Nat × Instr × Nat) := [(64, .invokevirtual 94, 3), (67, .ifCond .eq 19, 3), (70, .aload 4, 2), (72, .bipush 8, 2), (74, .iaload, 1), (75, .aload_n 3, 1), (76, .iconst 0, 1), (77, .iaload, 1), (78, .iadd, 1), (79, .aload 4, 2), (81, .iconst 1, 1), (82, .iaload, 1), (83, .if_icmp .le 9, 3), (86, .aload_n 0, 1), (87, .iconst 2, 1), (88, .invokevirtual 41, 3), (91, .ireturn, 1), (92, .aload_n 3, 1), (93, .iconst 3, 1), (94, .iload_n 2, 1), (95, .iastore, 1)]
set_option maxRecDepth 100000 in
theorem gv_61_2 : g_okc cX7_hang gi_61_2 = true := by decide +kernel
def gi_61_3 : List (Nat × Instr × Nat) := [(96, .aload_n 0, 1), (97, .iload_n 2, 1), (98, .invokevirtual 97, 3), (101, .aload 4, 2), (103, .bipush 8, 2), (105, .iaload, 1), (106, .ireturn, 1)]
set_option maxRecDepth 100000 in
theorem gv_61_3 : g_okc cX7_hang gi_61_3 = true := by decide +kernel
def gi_61 : List (List (Nat × Instr × Nat)) := [gi_61_0, gi_61_1, gi_61_2, gi_61_3]
theorem gv_61 : ∀ ch ∈ gi_61, g_okc cX7_hang ch = true := List.forall_mem_cons.mpr ⟨gv_61_0, List.forall_mem_cons.mpr ⟨gv_61_1, List.forall_mem_cons.mpr ⟨gv_61_2, List.forall_mem_cons.mpr ⟨gv_61_3, fun _ h => absurd h List.not_mem_nil⟩⟩⟩⟩
