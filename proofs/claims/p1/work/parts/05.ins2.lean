def gi_62_0 : List (Nat × Instr × Nat) := [(0, .aload_n 0, 1), (1, .iload_n 1, 1), (2, .invokevirtual 157, 3), (5, .astore_n 2, 1), (6, .aload_n 2, 1), (7, .getfield 161, 3), (10, .iconst (-1), 1), (11, .if_icmp .ne 13, 3), (14, .new 41, 3), (17, .dup, 1), (18, .ldc 176, 2), (20, .invokespecial 45, 3), (23, .athrow, 1), (24, .aload_n 0, 1), (25, .getfield 10, 3), (28, .aload_n 2, 1), (29, .getfield 161, 3)]
set_option maxRecDepth 100000 in
theorem gv_62_0 : g_okc cX5_take gi_62_0 = true := by decide +kernel
def gi_62_1 : List (Nat × Instr × Nat) := [(32, .invokevirtual 102, 3), (35, .astore_n 3, 1), (36, .aload_n 0, 1), (37, .aload_n 3, 1), (38, .invokevirtual 164, 3), (41, .aload_n 2, 1), (42, .iconst (-1), 1), (43, .putfield 161, 3), (46, .aload_n 0, 1), (47, .aload_n 3, 1), (48, .invokevirtual 173, 3), (51, .aload_n 3, 1), (52, .getfield 59, 3), (55, .ireturn, 1)]
set_option maxRecDepth 100000 in
theorem gv_62_1 : g_okc cX5_take gi_62_1 = true := by decide +kernel
def gi_62 : List (List (Nat × Instr × Nat)) := [gi_62_0, gi_62_1]
theorem gv_62 : ∀ ch ∈ gi_62, g_okc cX5_take ch = true := List.forall_mem_cons.mpr ⟨gv_62_0, List.forall_mem_cons.mpr ⟨gv_62_1, fun _ h => absurd h List.not_mem_nil⟩⟩
def gi_63_0 : List (Nat × Instr × Nat) := [(0, .aload_n 2, 1), (1, .iconst 0, 1), (2, .aload_n 0, 1), (3, .iload_n 1, 1), (4, .invokevirtual 42, 3), (7, .i2l, 1), (8, .lastore, 1), (9, .goto 9, 3), (12, .astore_n 3, 1), (13, .iconst 1, 1), (14, .ireturn, 1), (15, .astore_n 3, 1), (16, .iconst 2, 1), (17, .ireturn, 1), (18, .iconst 0, 1), (19, .ireturn, 1)]
set_option maxRecDepth 100000 in
theorem gv_63_0 : g_okc cL_take gi_63_0 = true := by decide +kernel
def gi_63 : List (List (Nat × Instr × Nat)) := [gi_63_0]
theorem gv_63 : ∀ ch ∈ gi_63, g_okc cL_take ch = true := List.forall_mem_cons.mpr ⟨gv_63_0, fun _ h => absurd h List.not_mem_nil⟩
def gi_64_0 : List (Nat × Instr × Nat) := [(0, .aload_n 0, 1), (1, .iconst 0, 1), (2, .putfield 23, 3), (5, .aload_n 0, 1), (6, .iload_n 1, 1), (7, .invokevirtual 91, 3), (10, .ifCond .ne 9, 3), (13, .aload_n 0, 1), (14, .iconst 1, 1), (15, .invokevirtual 41, 3), (18, .ireturn, 1), (19, .aload_n 0, 1), (20, .getfield 10, 3), (23, .iload_n 1, 1), (24, .invokevirtual 60, 3), (27, .checkcast 81, 3), (30, .iconst 3, 1), (31, .iaload, 1)]
set_option maxRecDepth 100000 in
theorem gv_64_0 : g_okc cX7_take gi_64_0 = true := by decide +kernel
def gi_64_1 : List (Nat × Instr × Nat) := [(32, .istore_n 2, 1), (33, .iload_n 2, 1), (34, .iconst (-1), 1), (35, .if_icmp .eq 11, 3), (38, .aload_n 0, 1), (39, .iload_n 2, 1), (40, .invokevirtual 94, 3), (43, .ifCond .ne 9, 3), (46, .aload_n 0, 1), (47, .iconst 2, 1), (48, .invokevirtual 41, 3), (51, .ireturn, 1), (52, .aload_n 0, 1), (53, .getfield 10, 3), (56, .iload_n 1, 1), (57, .invokevirtual 60, 3), (60, .checkcast 81, 3), (63, .iconst 3, 1)]
set_option maxRecDepth 100000 in
theorem gv_64_1 : g_okc cX7_take gi_64_1 = true := by decide +kernel
def gi_64_2 : List (Nat × Instr × Nat) := [(64, .iconst (-1), 1), (65, .iastore, 1), (66, .aload_n 0, 1), (67, .iload_n 2, 1), (68, .invokevirtual 97, 3), (71, .iload_n 2, 1), (72, .ireturn, 1)]
set_option maxRecDepth 100000 in
theorem gv_64_2 : g_okc cX7_take gi_64_2 = true := by decide +kernel
def gi_64 : List (List (Nat × Instr × Nat)) := [gi_64_0, gi_64_1, gi_64_2]
theorem gv_64 : ∀ ch ∈ gi_64, g_okc cX7_take ch = true := List.forall_mem_cons.mpr ⟨gv_64_0, List.forall_mem_cons.mpr ⟨gv_64_1, List.forall_mem_cons.mpr ⟨gv_64_2, fun _ h => absurd h List.not_mem_nil⟩⟩⟩
def gi_65_0 : List (Nat × Instr × Nat) := [(0, .aload_n 0, 1), (1, .getfield 17, 3), (4, .ifCond .eq 7, 3), (7, .iconst 0, 1), (8, .goto 12, 3), (11, .aload_n 0, 1), (12, .getfield 29, 3), (15, .aload_n 0, 1), (16, .getfield 26, 3), (19, .isub, 1), (20, .ireturn, 1)]
set_option maxRecDepth 100000 in
theorem gv_65_0 : g_okc cX0_difference gi_65_0 = true := by decide +kernel
def gi_65 : List (List (Nat × Instr × Nat)) := [gi_65_0]
theorem gv_65 : ∀ ch ∈ gi_65, g_okc cX0_difference ch = true := List.forall_mem_cons.mpr ⟨gv_65_0, fun _ h => absurd h List.not_mem_nil⟩
def gi_66_0 : List (Nat × Instr × Nat) := [(0, .aload_n 0, 1), (1, .getfield 10, 3), (4, .iload_n 1, 1), (5, .invokevirtual 102, 3), (8, .astore_n 3, 1), (9, .iload_n 2, 1), (10, .ifCond .lt 10, 3), (13, .iload_n 2, 1), (14, .sipush 300, 3), (17, .if_icmp .le 13, 3), (20, .new 30, 3), (23, .dup, 1), (24, .ldc 178, 2), (26, .invokespecial 34, 3), (29, .athrow, 1), (30, .aload_n 3, 1), (31, .getfield 50, 3)]
set_option maxRecDepth 100000 in
theorem gv_66_0 : g_okc cX5_counter gi_66_0 = true := by decide +kernel
def gi_66_1 : List (Nat × Instr × Nat) := [(34, .ifCond .eq 13, 3), (37, .new 41, 3), (40, .dup, 1), (41, .ldc 180, 2), (43, .invokespecial 45, 3), (46, .athrow, 1), (47, .aload_n 0, 1), (48, .aload_n 3, 1), (49, .invokevirtual 164, 3), (52, .aload_n 3, 1), (53, .iload_n 2, 1), (54, .putfield 182, 3), (57, .aload_n 3, 1), (58, .invokevirtual 185, 3), (61, .ireturn, 1)]
set_option maxRecDepth 100000 in
theorem gv_66_1 : g_okc cX5_counter gi_66_1 = true := by decide +kernel
def gi_66 : List (List (Nat × Instr × Nat)) := [gi_66_0, gi_66_1]
theorem gv_66 : ∀ ch ∈ gi_66, g_okc cX5_counter ch = true := List.forall_mem_cons.mpr ⟨gv_66_0, List.forall_mem_cons.mpr ⟨gv_66_1, fun _ h => absurd h List.not_mem_nil⟩⟩
def gi_67_0 : List (Nat × Instr × Nat) := [(0, .aload_n 3, 1), (1, .iconst 0, 1), (2, .aload_n 0, 1), (3, .iload_n 1, 1), (4, .iload_n 2, 1), (5, .invokevirtual 45, 3), (8, .i2l, 1), (9, .lastore, 1), (10, .goto 15, 3), (13, .astore 4, 2), (15, .iconst 1, 1), (16, .ireturn, 1), (17, .astore 4, 2), (19, .iconst 2, 1), (20, .ireturn, 1), (21, .astore 4, 2), (23, .iconst 3, 1), (24, .ireturn, 1), (25, .iconst 0, 1), (26, .ireturn, 1)]
set_option maxRecDepth 100000 in
theorem gv_67_0 : g_okc cL_counter gi_67_0 = true := by decide +kernel
def gi_67 : List (List (Nat × Instr × Nat)) := [gi_67_0]
theorem gv_67 : ∀ ch ∈ gi_67, g_okc cL_counter ch = true := List.forall_mem_cons.mpr ⟨gv_67_0, fun _ h => absurd h List.not_mem_nil⟩
def gi_68_0 : List (Nat × Instr × Nat) := [(0, .aload_n 0, 1), (1, .iconst 0, 1), (2, .iaload, 1), (3, .iconst 1, 1), (4, .if_icmp .ne 7, 3), (7, .iconst 0, 1), (8, .goto 11, 3), (11, .aload_n 0, 1), (12, .bipush 8, 2), (14, .iaload, 1), (15, .aload_n 0, 1), (16, .iconst 3, 1), (17, .iaload, 1), (18, .isub, 1), (19, .ireturn, 1)]
set_option maxRecDepth 100000 in
theorem gv_68_0 : g_okc cX6_difference gi_68_0 = true := by decide +kernel
def gi_68 : List (List (Nat × Instr × Nat)) := [gi_68_0]
theorem gv_68 : ∀ ch ∈ gi_68, g_okc cX6_difference ch = true := List.forall_mem_cons.mpr ⟨gv_68_0, fun _ h => absurd h List.not_mem_nil⟩
def gi_69_0 : List (Nat × Instr × Nat) := [(0, .aload_n 0, 1), (1, .iconst 0, 1), (2, .putfield 23, 3), (5, .aload_n 0, 1), (6, .iload_n 1, 1), (7, .invokevirtual 57, 3), (10, .ifCond .ne 9, 3), (13, .aload_n 0, 1), (14, .iconst 1, 1), (15, .invokevirtual 41, 3), (18, .ireturn, 1), (19, .iload_n 2, 1), (20, .iconst 0, 1), (21, .sipush 300, 3), (24, .invokestatic 34, 3), (27, .ifCond .ne 9, 3), (30, .aload_n 0, 1), (31, .iconst 2, 1)]
set_option maxRecDepth 100000 in
theorem gv_69_0 : g_okc cX7_counter gi_69_0 = true := by decide +kernel
def gi_69_1 : List (Nat × Instr × Nat) := [(32, .invokevirtual 41, 3), (35, .ireturn, 1), (36, .aload_n 0, 1), (37, .getfield 19, 3), (40, .getfield 27, 3), (43, .iload_n 1, 1), (44, .invokevirtual 60, 3), (47, .checkcast 81, 3), (50, .astore_n 3, 1), (51, .aload_n 3, 1), (52, .iconst 0, 1), (53, .iaload, 1), (54, .iconst 1, 1), (55, .if_icmp .eq 11, 3), (58, .aload_n 0, 1), (59, .iload_n 1, 1), (60, .invokevirtual 94, 3), (63, .ifCond .ne 9, 3)]
set_option maxRecDepth 100000 in
theorem gv_69_1 : g_okc cX7_counter gi_69_1 = true := by decide +kernel
def gi_69_2 : List (Nat × Instr × Nat) := [(66, .aload_n 0, 1), (67, .iconst 3, 1), (68, .invokevirtual 41, 3), (71, .ireturn, 1), (72, .aload_n 3, 1), (73, .iconst 3, 1), (74, .iload_n 2, 1), (75, .iastore, 1), (76, .aload_n 3, 1), (77, .invokestatic 101, 3), (80, .ireturn, 1)]
set_option maxRecDepth 100000 in
theorem gv_69_2 : g_okc cX7_counter gi_69_2 = true := by decide +kernel
def gi_69 : List (List (Nat × Instr × Nat)) := [gi_69_0, gi_69_1, gi_69_2]
theorem gv_69 : ∀ ch ∈ gi_69, g_okc cX7_counter ch = true := List.forall_mem_cons.mpr ⟨gv_69_0, List.forall_mem_cons.mpr ⟨gv_69_1, List.forall_mem_cons.mpr ⟨gv_69_2, fun _ h => absurd h List.not_mem_nil⟩⟩⟩
def gi_70_0 : List (Nat × Instr × Nat) := [(0, .iconst 0, 1), (1, .istore_n 1, 1), (2, .iload_n 1, 1), (3, .aload_n 0, 1), (4, .getfield 22, 3), (7, .if_icmp .ge 29, 3), (10, .aload_n 0, 1), (11, .getfield 17, 3), (14, .iload_n 1, 1), (15, .aaload, 1), (16, .iconst 0, 1), (17, .putfield 39, 3), (20, .aload_n 0, 1), (21, .getfield 17, 3), (24, .iload_n 1, 1), (25, .aaload, 1), (26, .iconst 0, 1), (27, .putfield 42, 3), (30, .iinc 1 1, 3)]
set_option maxRecDepth 100000 in
theorem gv_70_0 : g_okc cX1_openAll gi_70_0 = true := by decide +kernel
def gi_70_1 : List (Nat × Instr × Nat) := [(33, .goto (-31), 3), (36, .return_, 1)]
set_option maxRecDepth 100000 in
theorem gv_70_1 : g_okc cX1_openAll gi_70_1 = true := by decide +kernel
def gi_70 : List (List (Nat × Instr × Nat)) := [gi_70_0, gi_70_1]
theorem gv_70 : ∀ ch ∈ gi_70, g_okc cX1_openAll ch = true := List.forall_mem_cons.mpr ⟨gv_70_0, List.forall_mem_cons.mpr ⟨gv_70_1, fun _ h => absurd h List.not_mem_nil⟩⟩
def gi_71_0 : List (Nat × Instr × Nat) := [(0, .aload_n 0, 1), (1, .iload_n 1, 1), (2, .invokevirtual 96, 3), (5, .invokevirtual 100, 3), (8, .aload_n 0, 1), (9, .iload_n 1, 1), (10, .putfield 15, 3), (13, .aload_n 0, 1), (14, .iconst 0, 1), (15, .putfield 56, 3), (18, .aload_n 0, 1), (19, .iconst 0, 1), (20, .putfield 60, 3), (23, .return_, 1)]
set_option maxRecDepth 100000 in
theorem gv_71_0 : g_okc cX4_begin gi_71_0 = true := by decide +kernel
def gi_71 : List (List (Nat × Instr × Nat)) := [gi_71_0]
theorem gv_71 : ∀ ch ∈ gi_71, g_okc cX4_begin ch = true := List.forall_mem_cons.mpr ⟨gv_71_0, fun _ h => absurd h List.not_mem_nil⟩
def gi_72_0 : List (Nat × Instr × Nat) := [(0, .aload_n 0, 1), (1, .getfield 10, 3), (4, .iload_n 1, 1), (5, .invokevirtual 98, 3), (8, .astore_n 2, 1), (9, .aload_n 0, 1), (10, .getfield 10, 3), (13, .getfield 112, 3), (16, .iconst (-1), 1), (17, .if_icmp .eq 13, 3), (20, .new 41, 3), (23, .dup, 1), (24, .ldc 189, 2), (26, .invokespecial 45, 3), (29, .athrow, 1), (30, .aload_n 0, 1), (31, .getfield 10, 3)]
set_option maxRecDepth 100000 in
theorem gv_72_0 : g_okc cX5_go gi_72_0 = true := by decide +kernel
def gi_72_1 : List (Nat × Instr × Nat) := [(34, .iload_n 1, 1), (35, .invokevirtual 191, 3), (38, .aload_n 2, 1), (39, .getfield 117, 3), (42, .ireturn, 1)]
set_option maxRecDepth 100000 in
theorem gv_72_1 : g_okc cX5_go gi_72_1 = true := by decide +kernel
def gi_72 : List (List (Nat × Instr × Nat)) := [gi_72_0, gi_72_1]
theorem gv_72 : ∀ ch ∈ gi_72, g_okc cX5_go ch = true := List.forall_mem_cons.mpr ⟨gv_72_0, List.forall_mem_cons.mpr ⟨gv_72_1, fun _ h => absurd h List.not_mem_nil⟩⟩
def gi_73_0 : List (Nat × Instr × Nat) := [(0, .aload_n 2, 1), (1, .iconst 0, 1), (2, .aload_n 0, 1), (3, .iload_n 1, 1), (4, .invokevirtual 48, 3), (7, .i2l, 1), (8, .lastore, 1), (9, .goto 9, 3), (12, .astore_n 3, 1), (13, .iconst 1, 1), (14, .ireturn, 1), (15, .astore_n 3, 1), (16, .iconst 2, 1), (17, .ireturn, 1), (18, .iconst 0, 1), (19, .ireturn, 1)]
set_option maxRecDepth 100000 in
theorem gv_73_0 : g_okc cL_go gi_73_0 = true := by decide +kernel
def gi_73 : List (List (Nat × Instr × Nat)) := [gi_73_0]
theorem gv_73 : ∀ ch ∈ gi_73, g_okc cL_go ch = true := List.forall_mem_cons.mpr ⟨gv_73_0, fun _ h => absurd h List.not_mem_nil⟩
def gi_74_0 : List (Nat × Instr × Nat) := [(0, .aload_n 0, 1), (1, .iload_n 1, 1), (2, .putfield 29, 3), (5, .aload_n 0, 1), (6, .iconst 0, 1), (7, .putfield 64, 3), (10, .aload_n 0, 1), (11, .iconst 0, 1), (12, .putfield 68, 3), (15, .aload_n 0, 1), (16, .getfield 18, 3), (19, .iload_n 1, 1), (20, .invokevirtual 71, 3), (23, .checkcast 9, 3), (26, .invokevirtual 36, 3), (29, .astore_n 2, 1), (30, .aload_n 2, 1), (31, .invokeinterface 40 1, 5)]
set_option maxRecDepth 100000 in
theorem gv_74_0 : g_okc cX6_begin gi_74_0 = true := by decide +kernel
def gi_74_1 : List (Nat × Instr × Nat) := [(36, .ifCond .eq 24, 3), (39, .aload_n 2, 1), (40, .invokeinterface 46 1, 5), (45, .checkcast 50, 3), (48, .astore_n 3, 1), (49, .aload_n 3, 1), (50, .iconst 4, 1), (51, .iconst 0, 1), (52, .iastore, 1), (53, .aload_n 3, 1), (54, .iconst 5, 1), (55, .iconst 0, 1), (56, .iastore, 1), (57, .goto (-27), 3), (60, .return_, 1)]
set_option maxRecDepth 100000 in
theorem gv_74_1 : g_okc cX6_begin gi_74_1 = true := by decide +kernel
def gi_74 : List (List (Nat × Instr × Nat)) := [gi_74_0, gi_74_1]
theorem gv_74 : ∀ ch ∈ gi_74, g_okc cX6_begin ch = true := List.forall_mem_cons.mpr ⟨gv_74_0, List.forall_mem_cons.mpr ⟨gv_74_1, fun _ h => absurd h List.not_mem_nil⟩⟩
def gi_75_0 : List (Nat × Instr × Nat) := [(0, .aload_n 0, 1), (1, .iconst 0, 1), (2, .putfield 23, 3), (5, .aload_n 0, 1), (6, .iload_n 1, 1), (7, .invokevirtual 53, 3), (10, .ifCond .ne 9, 3), (13, .aload_n 0, 1), (14, .iconst 1, 1), (15, .invokevirtual 41, 3), (18, .ireturn, 1), (19, .aload_n 0, 1), (20, .getfield 19, 3), (23, .getfield 64, 3), (26, .iconst (-1), 1), (27, .if_icmp .eq 9, 3), (30, .aload_n 0, 1), (31, .iconst 2, 1)]
set_option maxRecDepth 100000 in
theorem gv_75_0 : g_okc cX7_go gi_75_0 = true := by decide +kernel
def gi_75_1 : List (Nat × Instr × Nat) := [(32, .invokevirtual 41, 3), (35, .ireturn, 1), (36, .aload_n 0, 1), (37, .getfield 19, 3), (40, .iload_n 1, 1), (41, .invokevirtual 105, 3), (44, .aload_n 0, 1), (45, .getfield 19, 3), (48, .getfield 38, 3), (51, .iload_n 1, 1), (52, .invokevirtual 60, 3), (55, .checkcast 7, 3), (58, .invokevirtual 30, 3), (61, .ireturn, 1)]
set_option maxRecDepth 100000 in
theorem gv_75_1 : g_okc cX7_go gi_75_1 = true := by decide +kernel
def gi_75 : List (List (Nat × Instr × Nat)) := [gi_75_0, gi_75_1]
theorem gv_75 : ∀ ch ∈ gi_75, g_okc cX7_go ch = true := List.forall_mem_cons.mpr ⟨gv_75_0, List.forall_mem_cons.mpr ⟨gv_75_1, fun _ h => absurd h List.not_mem_nil⟩⟩
def gi_76_0 : List (Nat × Instr × Nat) := [(0, .aload_n 0, 1), (1, .getfield 10, 3), (4, .getfield 112, 3), (7, .iconst (-1), 1), (8, .if_icmp .ne 14, 3), (11, .new 41, 3), (14, .dup, 1), (15, .ldc_w 334, 3), (18, .invokespecial 45, 3), (21, .athrow, 1), (22, .return_, 1)]
set_option maxRecDepth 100000 in
theorem gv_76_0 : g_okc cX5_refuseUnlessRunning gi_76_0 = true := by decide +kernel
def gi_76 : List (List (Nat × Instr × Nat)) := [gi_76_0]
theorem gv_76 : ∀ ch ∈ gi_76, g_okc cX5_refuseUnlessRunning ch = true := List.forall_mem_cons.mpr ⟨gv_76_0, fun _ h => absurd h List.not_mem_nil⟩
def gi_77_0 : List (Nat × Instr × Nat) := [(0, .aload_n 0, 1), (1, .invokevirtual 195, 3), (4, .aload_n 0, 1), (5, .getfield 10, 3), (8, .getfield 198, 3), (11, .istore_n 2, 1), (12, .aload_n 0, 1), (13, .getfield 10, 3), (16, .iload_n 1, 1), (17, .putfield 198, 3), (20, .iload_n 2, 1), (21, .ireturn, 1)]
set_option maxRecDepth 100000 in
theorem gv_77_0 : g_okc cX5_stop gi_77_0 = true := by decide +kernel
def gi_77 : List (List (Nat × Instr × Nat)) := [gi_77_0]
theorem gv_77 : ∀ ch ∈ gi_77, g_okc cX5_stop ch = true := List.forall_mem_cons.mpr ⟨gv_77_0, fun _ h => absurd h List.not_mem_nil⟩
def gi_78_0 : List (Nat × Instr × Nat) := [(0, .aload_n 2, 1), (1, .iconst 0, 1), (2, .aload_n 0, 1), (3, .iload_n 1, 1), (4, .invokevirtual 51, 3), (7, .ifCond .eq 7, 3), (10, .lconst 1, 1), (11, .goto 4, 3), (14, .lconst 0, 1), (15, .lastore, 1), (16, .goto 6, 3), (19, .astore_n 3, 1), (20, .iconst 1, 1), (21, .ireturn, 1), (22, .iconst 0, 1), (23, .ireturn, 1)]
set_option maxRecDepth 100000 in
theorem gv_78_0 : g_okc cL_stop gi_78_0 = true := by decide +kernel
def gi_78 : List (List (Nat × Instr × Nat)) := [gi_78_0]
theorem gv_78 : ∀ ch ∈ gi_78, g_okc cL_stop ch = true := List.forall_mem_cons.mpr ⟨gv_78_0, fun _ h => absurd h List.not_mem_nil⟩
def gi_79_0 : List (Nat × Instr × Nat) := [(0, .aload_n 0, 1), (1, .aload_n 0, 1), (2, .getfield 19, 3), (5, .getfield 64, 3), (8, .iconst (-1), 1), (9, .if_icmp .ne 7, 3), (12, .iconst 1, 1), (13, .goto 4, 3), (16, .iconst 0, 1), (17, .putfield 23, 3), (20, .aload_n 0, 1), (21, .getfield 23, 3), (24, .ifCond .le 5, 3), (27, .iconst 0, 1), (28, .ireturn, 1), (29, .aload_n 0, 1), (30, .getfield 19, 3)]
set_option maxRecDepth 100000 in
theorem gv_79_0 : g_okc cX7_stop gi_79_0 = true := by decide +kernel
def gi_79_1 : List (Nat × Instr × Nat) := [(33, .getfield 108, 3), (36, .istore_n 2, 1), (37, .aload_n 0, 1), (38, .getfield 19, 3), (41, .iload_n 1, 1), (42, .putfield 108, 3), (45, .iload_n 2, 1), (46, .ireturn, 1)]
set_option maxRecDepth 100000 in
theorem gv_79_1 : g_okc cX7_stop gi_79_1 = true := by decide +kernel
def gi_79 : List (List (Nat × Instr × Nat)) := [gi_79_0, gi_79_1]
theorem gv_79 : ∀ ch ∈ gi_79, g_okc cX7_stop ch = true := List.forall_mem_cons.mpr ⟨gv_79_0, List.forall_mem_cons.mpr ⟨gv_79_1, fun _ h => absurd h List.not_mem_nil⟩⟩
def gi_80_0 : List (Nat × Instr × Nat) := [(0, .iconst 0, 1), (1, .istore_n 1, 1), (2, .iconst 0, 1), (3, .istore_n 2, 1), (4, .iload_n 2, 1), (5, .aload_n 0, 1), (6, .getfield 22, 3), (9, .if_icmp .ge 24, 3), (12, .aload_n 0, 1), (13, .getfield 17, 3), (16, .iload_n 2, 1), (17, .aaload, 1), (18, .getfield 39, 3), (21, .ifCond .ne 6, 3), (24, .iinc 1 1, 3), (27, .iinc 2 1, 3), (30, .goto (-26), 3)]
set_option maxRecDepth 100000 in
theorem gv_80_0 : g_okc cX1_openMoves gi_80_0 = true := by decide +kernel
def gi_80_1 : List (Nat × Instr × Nat) := [(33, .iload_n 1, 1), (34, .ireturn, 1)]
set_option maxRecDepth 100000 in
theorem gv_80_1 : g_okc cX1_openMoves gi_80_1 = true := by decide +kernel
def gi_80 : List (List (Nat × Instr × Nat)) := [gi_80_0, gi_80_1]
theorem gv_80 : ∀ ch ∈ gi_80, g_okc cX1_openMoves ch = true := List.forall_mem_cons.mpr ⟨gv_80_0, List.forall_mem_cons.mpr ⟨gv_80_1, fun _ h => absurd h List.not_mem_nil⟩⟩
def gi_81_0 : List (Nat × Instr × Nat) := [(0, .aload_n 0, 1), (1, .getfield 15, 3), (4, .iconst (-1), 1), (5, .if_icmp .ne 7, 3), (8, .iconst 0, 1), (9, .goto 14, 3), (12, .aload_n 0, 1), (13, .aload_n 0, 1), (14, .getfield 15, 3), (17, .invokevirtual 96, 3), (20, .invokevirtual 103, 3), (23, .ireturn, 1)]
set_option maxRecDepth 100000 in
theorem gv_81_0 : g_okc cX4_openMoves gi_81_0 = true := by decide +kernel
def gi_81 : List (List (Nat × Instr × Nat)) := [gi_81_0]
theorem gv_81 : ∀ ch ∈ gi_81, g_okc cX4_openMoves ch = true := List.forall_mem_cons.mpr ⟨gv_81_0, fun _ h => absurd h List.not_mem_nil⟩
def gi_82_0 : List (Nat × Instr × Nat) := [(0, .aload_n 0, 1), (1, .iconst (-1), 1), (2, .putfield 15, 3), (5, .aload_n 0, 1), (6, .iconst 0, 1), (7, .putfield 56, 3), (10, .aload_n 0, 1), (11, .iconst 0, 1), (12, .putfield 60, 3), (15, .return_, 1)]
set_option maxRecDepth 100000 in
theorem gv_82_0 : g_okc cX4_rest gi_82_0 = true := by decide +kernel
def gi_82 : List (List (Nat × Instr × Nat)) := [gi_82_0]
theorem gv_82 : ∀ ch ∈ gi_82, g_okc cX4_rest ch = true := List.forall_mem_cons.mpr ⟨gv_82_0, fun _ h => absurd h List.not_mem_nil⟩
def gi_83_0 : List (Nat × Instr × Nat) := [(0, .aload_n 0, 1), (1, .invokevirtual 195, 3), (4, .aload_n 0, 1), (5, .getfield 10, 3), (8, .invokevirtual 201, 3), (11, .istore_n 1, 1), (12, .aload_n 0, 1), (13, .getfield 10, 3), (16, .invokevirtual 204, 3), (19, .iload_n 1, 1), (20, .ireturn, 1)]
set_option maxRecDepth 100000 in
theorem gv_83_0 : g_okc cX5_end gi_83_0 = true := by decide +kernel
def gi_83 : List (List (Nat × Instr × Nat)) := [gi_83_0]
theorem gv_83 : ∀ ch ∈ gi_83, g_okc cX5_end ch = true := List.forall_mem_cons.mpr ⟨gv_83_0, fun _ h => absurd h List.not_mem_nil⟩
def gi_84_0 : List (Nat × Instr × Nat) := [(0, .aload_n 1, 1), (1, .iconst 0, 1), (2, .aload_n 0, 1), (3, .invokevirtual 55, 3), (6, .i2l, 1), (7, .lastore, 1), (8, .goto 6, 3), (11, .astore_n 2, 1), (12, .iconst 1, 1), (13, .ireturn, 1), (14, .iconst 0, 1), (15, .ireturn, 1)]
set_option maxRecDepth 100000 in
theorem gv_84_0 : g_okc cL_end gi_84_0 = true := by decide +kernel
def gi_84 : List (List (Nat × Instr × Nat)) := [gi_84_0]
theorem gv_84 : ∀ ch ∈ gi_84, g_okc cL_end ch = true := List.forall_mem_cons.mpr ⟨gv_84_0, fun _ h => absurd h List.not_mem_nil⟩
def gi_85_0 : List (Nat × Instr × Nat) := [(0, .iconst 0, 1), (1, .istore_n 1, 1), (2, .aload_n 0, 1), (3, .getfield 29, 3), (6, .iconst (-1), 1), (7, .if_icmp .ne 5, 3), (10, .iconst 0, 1), (11, .ireturn, 1), (12, .aload_n 0, 1), (13, .getfield 18, 3), (16, .aload_n 0, 1), (17, .getfield 29, 3), (20, .invokevirtual 71, 3), (23, .checkcast 9, 3), (26, .invokevirtual 36, 3), (29, .astore_n 2, 1), (30, .aload_n 2, 1), (31, .invokeinterface 40 1, 5)]
set_option maxRecDepth 100000 in
theorem gv_85_0 : g_okc cX6_open gi_85_0 = true := by decide +kernel
def gi_85_1 : List (Nat × Instr × Nat) := [(36, .ifCond .eq 30, 3), (39, .aload_n 2, 1), (40, .invokeinterface 46 1, 5), (45, .checkcast 50, 3), (48, .astore_n 3, 1), (49, .iload_n 1, 1), (50, .aload_n 3, 1), (51, .iconst 4, 1), (52, .iaload, 1), (53, .ifCond .ne 7, 3), (56, .iconst 1, 1), (57, .goto 4, 3), (60, .iconst 0, 1), (61, .iadd, 1), (62, .istore_n 1, 1), (63, .goto (-33), 3)]
set_option maxRecDepth 100000 in
theorem gv_85_1 : g_okc cX6_open gi_85_1 = true := by decide +kernel
def gi_85_2 : List (Nat × Instr × Nat) := [(66, .iload_n 1, 1), (67, .ireturn, 1)]
set_option maxRecDepth 100000 in
theorem gv_85_2 : g_okc cX6_open gi_85_2 = true := by decide +kernel
def gi_85 : List (List (Nat × Instr × Nat)) := [gi_85_0, gi_85_1, gi_85_2]
theorem gv_85 : ∀ ch ∈ gi_85, g_okc cX6_open ch = true := List.forall_mem_cons.mpr ⟨gv_85_0, List.forall_mem_cons.mpr ⟨gv_85_1, List.forall_mem_cons.mpr ⟨gv_85_2, fun _ h => absurd h List.not_mem_nil⟩⟩⟩
def gi_86_0 : List (Nat × Instr × Nat) := [(0, .aload_n 0, 1), (1, .iconst (-1), 1), (2, .putfield 29, 3), (5, .aload_n 0, 1), (6, .iconst 0, 1), (7, .putfield 64, 3), (10, .aload_n 0, 1), (11, .iconst 0, 1), (12, .putfield 68, 3), (15, .return_, 1)]
set_option maxRecDepth 100000 in
theorem gv_86_0 : g_okc cX6_end gi_86_0 = true := by decide +kernel
def gi_86 : List (List (Nat × Instr × Nat)) := [gi_86_0]
theorem gv_86 : ∀ ch ∈ gi_86, g_okc cX6_end ch = true := List.forall_mem_cons.mpr ⟨gv_86_0, fun _ h => absurd h List.not_mem_nil⟩
def gi_87_0 : List (Nat × Instr × Nat) := [(0, .aload_n 0, 1), (1, .iconst 0, 1), (2, .putfield 23, 3), (5, .aload_n 0, 1), (6, .getfield 19, 3), (9, .getfield 64, 3), (12, .iconst (-1), 1), (13, .if_icmp .ne 9, 3), (16, .aload_n 0, 1), (17, .iconst 1, 1), (18, .invokevirtual 41, 3), (21, .ireturn, 1), (22, .aload_n 0, 1), (23, .getfield 19, 3), (26, .invokevirtual 112, 3), (29, .istore_n 1, 1), (30, .aload_n 0, 1), (31, .getfield 19, 3)]
set_option maxRecDepth 100000 in
theorem gv_87_0 : g_okc cX7_end gi_87_0 = true := by decide +kernel
def gi_87_1 : List (Nat × Instr × Nat) := [(34, .invokevirtual 115, 3), (37, .iload_n 1, 1), (38, .ireturn, 1)]
set_option maxRecDepth 100000 in
theorem gv_87_1 : g_okc cX7_end gi_87_1 = true := by decide +kernel
def gi_87 : List (List (Nat × Instr × Nat)) := [gi_87_0, gi_87_1]
theorem gv_87 : ∀ ch ∈ gi_87, g_okc cX7_end ch = true := List.forall_mem_cons.mpr ⟨gv_87_0, List.forall_mem_cons.mpr ⟨gv_87_1, fun _ h => absurd h List.not_mem_nil⟩⟩
def gi_88_0 : List (Nat × Instr × Nat) := [(0, .aload_n 0, 1), (1, .getfield 10, 3), (4, .iload_n 1, 1), (5, .invokevirtual 102, 3), (8, .astore_n 3, 1), (9, .aload_n 3, 1), (10, .getfield 207, 3), (13, .istore 4, 2), (15, .aload_n 3, 1), (16, .iload_n 2, 1), (17, .putfield 207, 3), (20, .iload 4, 2), (22, .ireturn, 1)]
set_option maxRecDepth 100000 in
theorem gv_88_0 : g_okc cX5_brake gi_88_0 = true := by decide +kernel
def gi_88 : List (List (Nat × Instr × Nat)) := [gi_88_0]
theorem gv_88 : ∀ ch ∈ gi_88, g_okc cX5_brake ch = true := List.forall_mem_cons.mpr ⟨gv_88_0, fun _ h => absurd h List.not_mem_nil⟩
def gi_89_0 : List (Nat × Instr × Nat) := [(0, .aload_n 3, 1), (1, .iconst 0, 1), (2, .aload_n 0, 1), (3, .iload_n 1, 1), (4, .iload_n 2, 1), (5, .invokevirtual 59, 3), (8, .ifCond .eq 7, 3), (11, .lconst 1, 1), (12, .goto 4, 3), (15, .lconst 0, 1), (16, .lastore, 1), (17, .goto 7, 3), (20, .astore 4, 2), (22, .iconst 1, 1), (23, .ireturn, 1), (24, .iconst 0, 1), (25, .ireturn, 1)]
set_option maxRecDepth 100000 in
theorem gv_89_0 : g_okc cL_brake gi_89_0 = true := by decide +kernel
def gi_89 : List (List (Nat × Instr × Nat)) := [gi_89_0]
theorem gv_89 : ∀ ch ∈ gi_89, g_okc cL_brake ch = true := List.forall_mem_cons.mpr ⟨gv_89_0, fun _ h => absurd h List.not_mem_nil⟩
def gi_90_0 : List (Nat × Instr × Nat) := [(0, .aload_n 0, 1), (1, .aload_n 0, 1), (2, .iload_n 1, 1), (3, .invokevirtual 57, 3), (6, .ifCond .eq 7, 3), (9, .iconst 0, 1), (10, .goto 4, 3), (13, .iconst 1, 1), (14, .putfield 23, 3), (17, .aload_n 0, 1), (18, .getfield 23, 3), (21, .ifCond .le 5, 3), (24, .iconst 0, 1), (25, .ireturn, 1), (26, .aload_n 0, 1), (27, .getfield 19, 3), (30, .getfield 27, 3)]
set_option maxRecDepth 100000 in
theorem gv_90_0 : g_okc cX7_brake gi_90_0 = true := by decide +kernel
def gi_90_1 : List (Nat × Instr × Nat) := [(33, .iload_n 1, 1), (34, .invokevirtual 60, 3), (37, .checkcast 81, 3), (40, .bipush 6, 2), (42, .iaload, 1), (43, .iconst 1, 1), (44, .if_icmp .ne 7, 3), (47, .iconst 1, 1), (48, .goto 4, 3), (51, .iconst 0, 1), (52, .istore_n 3, 1), (53, .aload_n 0, 1), (54, .getfield 19, 3), (57, .getfield 27, 3), (60, .iload_n 1, 1), (61, .invokevirtual 60, 3)]
set_option maxRecDepth 100000 in
theorem gv_90_1 : g_okc cX7_brake gi_90_1 = true := by decide +kernel
def gi_90_2 : List (Nat × Instr × Nat) := [(64, .checkcast 81, 3), (67, .bipush 6, 2), (69, .iload_n 2, 1), (70, .ifCond .eq 7, 3), (73, .iconst 1, 1), (74, .goto 4, 3), (77, .iconst 0, 1), (78, .iastore, 1), (79, .iload_n 3, 1), (80, .ireturn, 1)]
set_option maxRecDepth 100000 in
theorem gv_90_2 : g_okc cX7_brake gi_90_2 = true := by decide +kernel
def gi_90 : List (List (Nat × Instr × Nat)) := [gi_90_0, gi_90_1, gi_90_2]
theorem gv_90 : ∀ ch ∈ gi_90, g_okc cX7_brake ch = true := List.forall_mem_cons.mpr ⟨gv_90_0, List.forall_mem_cons.mpr ⟨gv_90_1, List.forall_mem_cons.mpr ⟨gv_90_2, fun _ h => absurd h List.not_mem_nil⟩⟩⟩
def gi_91_0 : List (Nat × Instr × Nat) := [(0, .aload_n 0, 1), (1, .invokevirtual 50, 3), (4, .istore_n 1, 1), (5, .iload_n 1, 1), (6, .ifCond .ge 8, 3), (9, .iload_n 1, 1), (10, .ineg, 1), (11, .goto 4, 3), (14, .iload_n 1, 1), (15, .ireturn, 1)]
set_option maxRecDepth 100000 in
theorem gv_91_0 : g_okc cX0_differenceWithoutSign gi_91_0 = true := by decide +kernel
def gi_91 : List (List (Nat × Instr × Nat)) := [gi_91_0]
theorem gv_91 : ∀ ch ∈ gi_91, g_okc cX0_differenceWithoutSign ch = true := List.forall_mem_cons.mpr ⟨gv_91_0, fun _ h => absurd h List.not_mem_nil⟩
def gi_92_0 : List (Nat × Instr × Nat) := [(0, .aload_n 2, 1), (1, .invokevirtual 156, 3), (4, .bipush 10, 2), (6, .if_icmp .le 20, 3), (9, .aload_n 1, 1), (10, .iconst 2, 1), (11, .putfield 133, 3), (14, .aload_n 0, 1), (15, .dup, 1), (16, .getfield 69, 3), (19, .iconst 1, 1), (20, .iadd, 1), (21, .putfield 69, 3), (24, .iconst 0, 1), (25, .ireturn, 1), (26, .aload_n 2, 1), (27, .getfield 159, 3), (30, .ifCond .ne 14, 3)]
set_option maxRecDepth 100000 in
theorem gv_92_0 : g_okc cX4_mayGo gi_92_0 = true := by decide +kernel
def gi_92_1 : List (Nat × Instr × Nat) := [(33, .aload_n 0, 1), (34, .getfield 50, 3), (37, .ifCond .ne 7, 3), (40, .iconst 1, 1), (41, .goto 4, 3), (44, .iconst 0, 1), (45, .istore_n 3, 1), (46, .iload_n 3, 1), (47, .ifCond .ne 17, 3), (50, .aload_n 2, 1), (51, .getfield 162, 3), (54, .ifCond .eq 32, 3), (57, .aload_n 2, 1), (58, .getfield 165, 3), (61, .ifCond .ne 25, 3)]
set_option maxRecDepth 100000 in
theorem gv_92_1 : g_okc cX4_mayGo gi_92_1 = true := by decide +kernel
def gi_92_2 : List (Nat × Instr × Nat) := [(64, .aload_n 1, 1), (65, .dup, 1), (66, .getfield 168, 3), (69, .iconst 1, 1), (70, .iadd, 1), (71, .putfield 168, 3), (74, .aload_n 0, 1), (75, .dup, 1), (76, .getfield 81, 3), (79, .iconst 1, 1), (80, .iadd, 1), (81, .putfield 81, 3), (84, .iconst 0, 1), (85, .ireturn, 1), (86, .iconst 1, 1), (87, .ireturn, 1)]
set_option maxRecDepth 100000 in
theorem gv_92_2 : g_okc cX4_mayGo gi_92_2 = true := by decide +kernel
def gi_92 : List (List (Nat × Instr × Nat)) := [gi_92_0, gi_92_1, gi_92_2]
theorem gv_92 : ∀ ch ∈ gi_92, g_okc cX4_mayGo ch = true := List.forall_mem_cons.mpr ⟨gv_92_0, List.forall_mem_cons.mpr ⟨gv_92_1, List.forall_mem_cons.mpr ⟨gv_92_2, fun _ h => absurd h List.not_mem_nil⟩⟩⟩
def gi_93_0 : List (Nat × Instr × Nat) := [(0, .aload_n 0, 1), (1, .getfield 13, 3), (4, .aload_n 2, 1), (5, .getfield 13, 3), (8, .if_icmp .ge 15, 3), (11, .aload_n 2, 1), (12, .getfield 13, 3), (15, .aload_n 0, 1), (16, .getfield 13, 3), (19, .isub, 1), (20, .goto 12, 3), (23, .aload_n 0, 1), (24, .getfield 13, 3), (27, .aload_n 2, 1), (28, .getfield 13, 3), (31, .isub, 1)]
set_option maxRecDepth 100000 in
theorem gv_93_0 : g_okc cX0_touchesAt gi_93_0 = true := by decide +kernel
def gi_93_1 : List (Nat × Instr × Nat) := [(32, .istore_n 3, 1), (33, .iload_n 3, 1), (34, .ifCond .eq 46, 3), (37, .iload_n 3, 1), (38, .aload_n 0, 1), (39, .getfield 35, 3), (42, .aload_n 2, 1), (43, .getfield 35, 3), (46, .iadd, 1), (47, .if_icmp .gt 33, 3), (50, .iload_n 1, 1), (51, .aload_n 0, 1), (52, .getfield 32, 3), (55, .isub, 1), (56, .aload_n 2, 1), (57, .getfield 23, 3), (60, .if_icmp .gt 20, 3), (63, .aload_n 2, 1)]
set_option maxRecDepth 100000 in
theorem gv_93_1 : g_okc cX0_touchesAt gi_93_1 = true := by decide +kernel
def gi_93_2 : List (Nat × Instr × Nat) := [(64, .getfield 23, 3), (67, .aload_n 2, 1), (68, .getfield 32, 3), (71, .isub, 1), (72, .iload_n 1, 1), (73, .if_icmp .gt 7, 3), (76, .iconst 1, 1), (77, .goto 4, 3), (80, .iconst 0, 1), (81, .ireturn, 1)]
set_option maxRecDepth 100000 in
theorem gv_93_2 : g_okc cX0_touchesAt gi_93_2 = true := by decide +kernel
def gi_93 : List (List (Nat × Instr × Nat)) := [gi_93_0, gi_93_1, gi_93_2]
theorem gv_93 : ∀ ch ∈ gi_93, g_okc cX0_touchesAt ch = true := List.forall_mem_cons.mpr ⟨gv_93_0, List.forall_mem_cons.mpr ⟨gv_93_1, List.forall_mem_cons.mpr ⟨gv_93_2, fun _ h => absurd h List.not_mem_nil⟩⟩⟩
def gi_94_0 : List (Nat × Instr × Nat) := [(0, .iconst 0, 1), (1, .istore_n 3, 1), (2, .iload_n 3, 1), (3, .aload_n 0, 1), (4, .getfield 37, 3), (7, .if_icmp .ge 42, 3), (10, .aload_n 1, 1), (11, .iload_n 2, 1), (12, .aload_n 0, 1), (13, .getfield 23, 3), (16, .iload_n 3, 1), (17, .aaload, 1), (18, .invokevirtual 194, 3), (21, .ifCond .eq 22, 3), (24, .aload_n 1, 1), (25, .aload_n 1, 1), (26, .getfield 107, 3), (29, .aload_n 0, 1), (30, .getfield 23, 3)]
set_option maxRecDepth 100000 in
theorem gv_94_0 : g_okc cX4_touchesAnew gi_94_0 = true := by decide +kernel
def gi_94_1 : List (Nat × Instr × Nat) := [(33, .iload_n 3, 1), (34, .aaload, 1), (35, .invokevirtual 194, 3), (38, .ifCond .ne 5, 3), (41, .iconst 1, 1), (42, .ireturn, 1), (43, .iinc 3 1, 3), (46, .goto (-44), 3), (49, .iconst 0, 1), (50, .ireturn, 1)]
set_option maxRecDepth 100000 in
theorem gv_94_1 : g_okc cX4_touchesAnew gi_94_1 = true := by decide +kernel
def gi_94 : List (List (Nat × Instr × Nat)) := [gi_94_0, gi_94_1]
theorem gv_94 : ∀ ch ∈ gi_94, g_okc cX4_touchesAnew ch = true := List.forall_mem_cons.mpr ⟨gv_94_0, List.forall_mem_cons.mpr ⟨gv_94_1, fun _ h => absurd h List.not_mem_nil⟩⟩
def gi_95_0 : List (Nat × Instr × Nat) := [(0, .aload_n 0, 1), (1, .dup, 1), (2, .getfield 44, 3), (5, .iload_n 1, 1), (6, .aload_n 0, 1), (7, .getfield 23, 3), (10, .if_icmp .ge 12, 3), (13, .aload_n 0, 1), (14, .getfield 23, 3), (17, .iload_n 1, 1), (18, .isub, 1), (19, .goto 9, 3), (22, .iload_n 1, 1), (23, .aload_n 0, 1), (24, .getfield 23, 3), (27, .isub, 1), (28, .iadd, 1), (29, .putfield 44, 3)]
set_option maxRecDepth 100000 in
theorem gv_95_0 : g_okc cX0_goTo gi_95_0 = true := by decide +kernel
def gi_95_1 : List (Nat × Instr × Nat) := [(32, .aload_n 0, 1), (33, .iload_n 1, 1), (34, .putfield 23, 3), (37, .return_, 1)]
set_option maxRecDepth 100000 in
theorem gv_95_1 : g_okc cX0_goTo gi_95_1 = true := by decide +kernel
def gi_95 : List (List (Nat × Instr × Nat)) := [gi_95_0, gi_95_1]
theorem gv_95 : ∀ ch ∈ gi_95, g_okc cX0_goTo ch = true := List.forall_mem_cons.mpr ⟨gv_95_0, List.forall_mem_cons.mpr ⟨gv_95_1, fun _ h => absurd h List.not_mem_nil⟩⟩
def gi_96_0 : List (Nat × Instr × Nat) := [(0, .aload_n 2, 1), (1, .getfield 159, 3), (4, .ifCond .ne 13, 3), (7, .aload_n 0, 1), (8, .dup, 1), (9, .getfield 50, 3), (12, .iconst 1, 1), (13, .isub, 1), (14, .putfield 50, 3), (17, .aload_n 1, 1), (18, .getfield 169, 3), (21, .ineg, 1), (22, .aload_n 1, 1), (23, .getfield 169, 3), (26, .aload_n 1, 1), (27, .getfield 172, 3), (30, .aload_n 2, 1), (31, .getfield 107, 3)]
set_option maxRecDepth 100000 in
theorem gv_96_0 : g_okc cX4_goNearer gi_96_0 = true := by decide +kernel
def gi_96_1 : List (Nat × Instr × Nat) := [(34, .isub, 1), (35, .invokestatic 175, 3), (38, .invokestatic 181, 3), (41, .istore_n 3, 1), (42, .aload_n 2, 1), (43, .getfield 107, 3), (46, .iload_n 3, 1), (47, .iadd, 1), (48, .istore 4, 2), (50, .aload_n 0, 1), (51, .aload_n 2, 1), (52, .iload 4, 2), (54, .invokevirtual 184, 3), (57, .ifCond .eq 27, 3), (60, .aload_n 0, 1), (61, .iconst 1, 1), (62, .putfield 56, 3)]
set_option maxRecDepth 100000 in
theorem gv_96_1 : g_okc cX4_goNearer gi_96_1 = true := by decide +kernel
def gi_96_2 : List (Nat × Instr × Nat) := [(65, .aload_n 0, 1), (66, .dup, 1), (67, .getfield 72, 3), (70, .iconst 1, 1), (71, .iadd, 1), (72, .putfield 72, 3), (75, .aload_n 0, 1), (76, .aload_n 2, 1), (77, .getfield 188, 3), (80, .putfield 18, 3), (83, .return_, 1), (84, .aload_n 2, 1), (85, .iload 4, 2), (87, .invokevirtual 191, 3), (90, .aload_n 2, 1), (91, .getfield 107, 3), (94, .aload_n 1, 1), (95, .getfield 172, 3)]
set_option maxRecDepth 100000 in
theorem gv_96_2 : g_okc cX4_goNearer gi_96_2 = true := by decide +kernel
def gi_96_3 : List (Nat × Instr × Nat) := [(98, .if_icmp .ne 18, 3), (101, .aload_n 1, 1), (102, .iconst 1, 1), (103, .putfield 133, 3), (106, .aload_n 0, 1), (107, .dup, 1), (108, .getfield 63, 3), (111, .iconst 1, 1), (112, .iadd, 1), (113, .putfield 63, 3), (116, .return_, 1)]
set_option maxRecDepth 100000 in
theorem gv_96_3 : g_okc cX4_goNearer gi_96_3 = true := by decide +kernel
def gi_96 : List (List (Nat × Instr × Nat)) := [gi_96_0, gi_96_1, gi_96_2, gi_96_3]
theorem gv_96 : ∀ ch ∈ gi_96, g_okc cX4_goNearer ch = true := List.forall_mem_cons.mpr ⟨gv_96_0, List.forall_mem_cons.mpr ⟨gv_96_1, List.forall_mem_cons.mpr ⟨gv_96_2, List.forall_mem_cons.mpr ⟨gv_96_3, fun _ h => absurd h List.not_mem_nil⟩⟩⟩⟩
def gi_97_0 : List (Nat × Instr × Nat) := [(0, .aload_n 0, 1), (1, .dup, 1), (2, .getfield 60, 3), (5, .iconst 1, 1), (6, .iadd, 1), (7, .putfield 60, 3), (10, .aload_n 0, 1), (11, .aload_n 0, 1), (12, .getfield 9, 3), (15, .putfield 50, 3), (18, .iconst 0, 1), (19, .istore_n 2, 1), (20, .iload_n 2, 1), (21, .aload_n 1, 1), (22, .getfield 126, 3), (25, .if_icmp .ge 70, 3), (28, .aload_n 0, 1), (29, .getfield 56, 3)]
set_option maxRecDepth 100000 in
theorem gv_97_0 : g_okc cX4_playMoves gi_97_0 = true := by decide +kernel
def gi_97_1 : List (Nat × Instr × Nat) := [(32, .ifCond .ne 63, 3), (35, .aload_n 1, 1), (36, .getfield 129, 3), (39, .iload_n 2, 1), (40, .aaload, 1), (41, .astore_n 3, 1), (42, .aload_n 3, 1), (43, .getfield 133, 3), (46, .ifCond .ne 43, 3), (49, .aload_n 3, 1), (50, .getfield 138, 3), (53, .aload_n 0, 1), (54, .getfield 60, 3), (57, .iconst 1, 1), (58, .isub, 1), (59, .if_icmp .gt 30, 3), (62, .aload_n 0, 1), (63, .aload_n 3, 1)]
set_option maxRecDepth 100000 in
theorem gv_97_1 : g_okc cX4_playMoves gi_97_1 = true := by decide +kernel
def gi_97_2 : List (Nat × Instr × Nat) := [(64, .getfield 141, 3), (67, .invokevirtual 144, 3), (70, .astore 4, 2), (72, .aload_n 0, 1), (73, .aload_n 3, 1), (74, .aload 4, 2), (76, .invokevirtual 148, 3), (79, .ifCond .eq 10, 3), (82, .aload_n 0, 1), (83, .aload_n 3, 1), (84, .aload 4, 2), (86, .invokevirtual 152, 3), (89, .iinc 2 1, 3), (92, .goto (-72), 3), (95, .return_, 1)]
set_option maxRecDepth 100000 in
theorem gv_97_2 : g_okc cX4_playMoves gi_97_2 = true := by decide +kernel
def gi_97 : List (List (Nat × Instr × Nat)) := [gi_97_0, gi_97_1, gi_97_2]
theorem gv_97 : ∀ ch ∈ gi_97, g_okc cX4_playMoves ch = true := List.forall_mem_cons.mpr ⟨gv_97_0, List.forall_mem_cons.mpr ⟨gv_97_1, List.forall_mem_cons.mpr ⟨gv_97_2, fun _ h => absurd h List.not_mem_nil⟩⟩⟩
def gi_98_0 : List (Nat × Instr × Nat) := [(0, .aload_n 1, 1), (1, .getfield 107, 3), (4, .iload_n 2, 1), (5, .if_icmp .ge 12, 3), (8, .iload_n 2, 1), (9, .aload_n 1, 1), (10, .getfield 107, 3), (13, .isub, 1), (14, .goto 9, 3), (17, .aload_n 1, 1), (18, .getfield 107, 3), (21, .iload_n 2, 1), (22, .isub, 1), (23, .istore_n 3, 1), (24, .aload_n 1, 1), (25, .getfield 107, 3), (28, .ifCond .eq 12, 3), (31, .aload_n 1, 1)]
set_option maxRecDepth 100000 in
theorem gv_98_0 : g_okc cX4_judgeRun gi_98_0 = true := by decide +kernel
def gi_98_1 : List (Nat × Instr × Nat) := [(32, .getfield 107, 3), (35, .bipush 120, 2), (37, .if_icmp .ne 18, 3), (40, .iload_n 3, 1), (41, .iconst 4, 1), (42, .if_icmp .lt 13, 3), (45, .aload_n 0, 1), (46, .dup, 1), (47, .getfield 75, 3), (50, .iconst 1, 1), (51, .iadd, 1), (52, .putfield 75, 3), (55, .aload_n 1, 1), (56, .getfield 107, 3), (59, .iload_n 2, 1), (60, .if_icmp .ge 29, 3), (63, .aload_n 1, 1)]
set_option maxRecDepth 100000 in
theorem gv_98_1 : g_okc cX4_judgeRun gi_98_1 = true := by decide +kernel
def gi_98_2 : List (Nat × Instr × Nat) := [(64, .getfield 107, 3), (67, .bipush 20, 2), (69, .if_icmp .gt 20, 3), (72, .aload_n 1, 1), (73, .getfield 162, 3), (76, .ifCond .eq 13, 3), (79, .aload_n 0, 1), (80, .dup, 1), (81, .getfield 78, 3), (84, .iconst 1, 1), (85, .iadd, 1), (86, .putfield 78, 3), (89, .return_, 1)]
set_option maxRecDepth 100000 in
theorem gv_98_2 : g_okc cX4_judgeRun gi_98_2 = true := by decide +kernel
def gi_98 : List (List (Nat × Instr × Nat)) := [gi_98_0, gi_98_1, gi_98_2]
theorem gv_98 : ∀ ch ∈ gi_98, g_okc cX4_judgeRun ch = true := List.forall_mem_cons.mpr ⟨gv_98_0, List.forall_mem_cons.mpr ⟨gv_98_1, List.forall_mem_cons.mpr ⟨gv_98_2, fun _ h => absurd h List.not_mem_nil⟩⟩⟩
def gi_99_0 : List (Nat × Instr × Nat) := [(0, .bipush 8, 2), (2, .aload_n 1, 1), (3, .invokevirtual 156, 3), (6, .bipush 9, 2), (8, .iadd, 1), (9, .bipush 10, 2), (11, .idiv, 1), (12, .invokestatic 175, 3), (15, .istore_n 2, 1), (16, .aload_n 1, 1), (17, .invokevirtual 198, 3), (20, .ifCond .le 7, 3), (23, .iconst (-1), 1), (24, .goto 4, 3), (27, .iconst 1, 1), (28, .istore_n 3, 1), (29, .aload_n 1, 1), (30, .getfield 107, 3)]
set_option maxRecDepth 100000 in
theorem gv_99_0 : g_okc cX4_runAway gi_99_0 = true := by decide +kernel
def gi_99_1 : List (Nat × Instr × Nat) := [(33, .istore 4, 2), (35, .iconst 0, 1), (36, .istore 5, 2), (38, .iload 5, 2), (40, .iload_n 2, 1), (41, .if_icmp .ge 48, 3), (44, .aload_n 1, 1), (45, .getfield 107, 3), (48, .iload_n 3, 1), (49, .iadd, 1), (50, .istore 6, 2), (52, .iload 6, 2), (54, .ifCond .lt 35, 3), (57, .iload 6, 2), (59, .bipush 120, 2), (61, .if_icmp .gt 28, 3)]
set_option maxRecDepth 100000 in
theorem gv_99_1 : g_okc cX4_runAway gi_99_1 = true := by decide +kernel
def gi_99_2 : List (Nat × Instr × Nat) := [(64, .aload_n 0, 1), (65, .aload_n 1, 1), (66, .iload 6, 2), (68, .invokevirtual 184, 3), (71, .ifCond .eq 6, 3), (74, .goto 15, 3), (77, .aload_n 1, 1), (78, .iload 6, 2), (80, .invokevirtual 191, 3), (83, .iinc 5 1, 3), (86, .goto (-48), 3), (89, .aload_n 0, 1), (90, .aload_n 1, 1), (91, .iload 4, 2), (93, .invokevirtual 201, 3)]
set_option maxRecDepth 100000 in
theorem gv_99_2 : g_okc cX4_runAway gi_99_2 = true := by decide +kernel
def gi_99_3 : List (Nat × Instr × Nat) := [(96, .return_, 1)]
set_option maxRecDepth 100000 in
theorem gv_99_3 : g_okc cX4_runAway gi_99_3 = true := by decide +kernel
def gi_99 : List (List (Nat × Instr × Nat)) := [gi_99_0, gi_99_1, gi_99_2, gi_99_3]
theorem gv_99 : ∀ ch ∈ gi_99, g_okc cX4_runAway ch = true := List.forall_mem_cons.mpr ⟨gv_99_0, List.forall_mem_cons.mpr ⟨gv_99_1, List.forall_mem_cons.mpr ⟨gv_99_2, List.forall_mem_cons.mpr ⟨gv_99_3, fun _ h => absurd h List.not_mem_nil⟩⟩⟩⟩
def gi_100_0 : List (Nat × Instr × Nat) := [(0, .aload_n 0, 1), (1, .dup, 1), (2, .getfield 66, 3), (5, .iconst 1, 1), (6, .iadd, 1), (7, .putfield 66, 3), (10, .aload_n 0, 1), (11, .invokevirtual 205, 3), (14, .iload_n 1, 1), (15, .iconst (-1), 1), (16, .if_icmp .eq 16, 3), (19, .iload_n 1, 1), (20, .aload_n 0, 1), (21, .getfield 44, 3), (24, .if_icmp .ge 8, 3), (27, .aload_n 0, 1), (28, .iload_n 1, 1), (29, .invokevirtual 208, 3)]
set_option maxRecDepth 100000 in
theorem gv_100_0 : g_okc cX4_finish gi_100_0 = true := by decide +kernel
def gi_100_1 : List (Nat × Instr × Nat) := [(32, .return_, 1)]
set_option maxRecDepth 100000 in
theorem gv_100_1 : g_okc cX4_finish gi_100_1 = true := by decide +kernel
def gi_100 : List (List (Nat × Instr × Nat)) := [gi_100_0, gi_100_1]
theorem gv_100 : ∀ ch ∈ gi_100, g_okc cX4_finish ch = true := List.forall_mem_cons.mpr ⟨gv_100_0, List.forall_mem_cons.mpr ⟨gv_100_1, fun _ h => absurd h List.not_mem_nil⟩⟩
def gi_101_0 : List (Nat × Instr × Nat) := [(0, .aload_n 0, 1), (1, .dup, 1), (2, .getfield 53, 3), (5, .iconst 1, 1), (6, .iadd, 1), (7, .putfield 53, 3), (10, .iconst 0, 1), (11, .istore_n 1, 1), (12, .iload_n 1, 1), (13, .aload_n 0, 1), (14, .getfield 37, 3), (17, .if_icmp .ge 27, 3), (20, .aload_n 0, 1), (21, .getfield 23, 3), (24, .iload_n 1, 1), (25, .aaload, 1), (26, .aload_n 0, 1), (27, .getfield 23, 3), (30, .iload_n 1, 1), (31, .aaload, 1)]
set_option maxRecDepth 100000 in
theorem gv_101_0 : g_okc cX4_playSecond gi_101_0 = true := by decide +kernel
def gi_101_1 : List (Nat × Instr × Nat) := [(32, .getfield 107, 3), (35, .putfield 110, 3), (38, .iinc 1 1, 3), (41, .goto (-29), 3), (44, .aload_n 0, 1), (45, .getfield 15, 3), (48, .iconst (-1), 1), (49, .if_icmp .eq 22, 3), (52, .aload_n 0, 1), (53, .getfield 56, 3), (56, .ifCond .ne 15, 3), (59, .aload_n 0, 1), (60, .aload_n 0, 1), (61, .aload_n 0, 1), (62, .getfield 15, 3)]
set_option maxRecDepth 100000 in
theorem gv_101_1 : g_okc cX4_playSecond gi_101_1 = true := by decide +kernel
def gi_101_2 : List (Nat × Instr × Nat) := [(65, .invokevirtual 96, 3), (68, .invokevirtual 113, 3), (71, .iconst 0, 1), (72, .istore_n 1, 1), (73, .iload_n 1, 1), (74, .aload_n 0, 1), (75, .getfield 37, 3), (78, .if_icmp .ge 52, 3), (81, .aload_n 0, 1), (82, .getfield 23, 3), (85, .iload_n 1, 1), (86, .aaload, 1), (87, .getfield 93, 3), (90, .ifCond .eq 34, 3), (93, .aload_n 0, 1), (94, .getfield 23, 3)]
set_option maxRecDepth 100000 in
theorem gv_101_2 : g_okc cX4_playSecond gi_101_2 = true := by decide +kernel
def gi_101_3 : List (Nat × Instr × Nat) := [(97, .iload_n 1, 1), (98, .aaload, 1), (99, .getfield 107, 3), (102, .aload_n 0, 1), (103, .getfield 23, 3), (106, .iload_n 1, 1), (107, .aaload, 1), (108, .getfield 110, 3), (111, .if_icmp .ne 13, 3), (114, .aload_n 0, 1), (115, .aload_n 0, 1), (116, .getfield 23, 3), (119, .iload_n 1, 1), (120, .aaload, 1), (121, .invokevirtual 116, 3), (124, .iinc 1 1, 3), (127, .goto (-54), 3)]
set_option maxRecDepth 100000 in
theorem gv_101_3 : g_okc cX4_playSecond gi_101_3 = true := by decide +kernel
def gi_101_4 : List (Nat × Instr × Nat) := [(130, .aload_n 0, 1), (131, .getfield 15, 3), (134, .iconst (-1), 1), (135, .if_icmp .eq 25, 3), (138, .aload_n 0, 1), (139, .invokevirtual 119, 3), (142, .ifCond .ne 18, 3), (145, .aload_n 0, 1), (146, .aload_n 0, 1), (147, .aload_n 0, 1), (148, .getfield 15, 3), (151, .invokevirtual 96, 3), (154, .getfield 120, 3), (157, .invokevirtual 123, 3)]
set_option maxRecDepth 100000 in
theorem gv_101_4 : g_okc cX4_playSecond gi_101_4 = true := by decide +kernel
def gi_101_5 : List (Nat × Instr × Nat) := [(160, .return_, 1)]
set_option maxRecDepth 100000 in
theorem gv_101_5 : g_okc cX4_playSecond gi_101_5 = true := by decide +kernel
def gi_101 : List (List (Nat × Instr × Nat)) := [gi_101_0, gi_101_1, gi_101_2, gi_101_3, gi_101_4, gi_101_5]
theorem gv_101 : ∀ ch ∈ gi_101, g_okc cX4_playSecond ch = true := List.forall_mem_cons.mpr ⟨gv_101_0, List.forall_mem_cons.mpr ⟨gv_101_1, List.forall_mem_cons.mpr ⟨gv_101_2, List.forall_mem_cons.mpr ⟨gv_101_3, List.forall_mem_cons.mpr ⟨gv_101_4, List.forall_mem_cons.mpr ⟨gv_101_5, fun _ h => absurd h List.not_mem_nil⟩⟩⟩⟩⟩⟩
def gi_102_0 : List (Nat × Instr × Nat) := [(0, .iload_n 1, 1), (1, .iconst 1, 1), (2, .if_icmp .lt 9, 3), (5, .iload_n 1, 1), (6, .bipush 120, 2), (8, .if_icmp .le 13, 3), (11, .new 30, 3), (14, .dup, 1), (15, .ldc 210, 2), (17, .invokespecial 34, 3), (20, .athrow, 1), (21, .aload_n 0, 1), (22, .getfield 10, 3), (25, .getfield 212, 3), (28, .iload_n 1, 1), (29, .iadd, 1), (30, .sipush 3000, 3)]
set_option maxRecDepth 100000 in
theorem gv_102_0 : g_okc cX5_pass gi_102_0 = true := by decide +kernel
def gi_102_1 : List (Nat × Instr × Nat) := [(33, .if_icmp .le 13, 3), (36, .new 41, 3), (39, .dup, 1), (40, .ldc 215, 2), (42, .invokespecial 45, 3), (45, .athrow, 1), (46, .aload_n 0, 1), (47, .getfield 10, 3), (50, .getfield 217, 3), (53, .istore_n 2, 1), (54, .iconst 0, 1), (55, .istore_n 3, 1), (56, .iload_n 3, 1), (57, .iload_n 1, 1), (58, .if_icmp .ge 16, 3), (61, .aload_n 0, 1), (62, .getfield 10, 3)]
set_option maxRecDepth 100000 in
theorem gv_102_1 : g_okc cX5_pass gi_102_1 = true := by decide +kernel
def gi_102_2 : List (Nat × Instr × Nat) := [(65, .invokevirtual 220, 3), (68, .iinc 3 1, 3), (71, .goto (-15), 3), (74, .aload_n 0, 1), (75, .getfield 10, 3), (78, .getfield 217, 3), (81, .iload_n 2, 1), (82, .isub, 1), (83, .ireturn, 1)]
set_option maxRecDepth 100000 in
theorem gv_102_2 : g_okc cX5_pass gi_102_2 = true := by decide +kernel
def gi_102 : List (List (Nat × Instr × Nat)) := [gi_102_0, gi_102_1, gi_102_2]
theorem gv_102 : ∀ ch ∈ gi_102, g_okc cX5_pass ch = true := List.forall_mem_cons.mpr ⟨gv_102_0, List.forall_mem_cons.mpr ⟨gv_102_1, List.forall_mem_cons.mpr ⟨gv_102_2, fun _ h => absurd h List.not_mem_nil⟩⟩⟩
def gi_103_0 : List (Nat × Instr × Nat) := [(0, .aload_n 2, 1), (1, .iconst 0, 1), (2, .aload_n 0, 1), (3, .iload_n 1, 1), (4, .invokevirtual 63, 3), (7, .i2l, 1), (8, .lastore, 1), (9, .goto 9, 3), (12, .astore_n 3, 1), (13, .iconst 1, 1), (14, .ireturn, 1), (15, .astore_n 3, 1), (16, .iconst 2, 1), (17, .ireturn, 1), (18, .iconst 0, 1), (19, .ireturn, 1)]
set_option maxRecDepth 100000 in
theorem gv_103_0 : g_okc cL_pass gi_103_0 = true := by decide +kernel
def gi_103 : List (List (Nat × Instr × Nat)) := [gi_103_0]
theorem gv_103 : ∀ ch ∈ gi_103, g_okc cL_pass ch = true := List.forall_mem_cons.mpr ⟨gv_103_0, fun _ h => absurd h List.not_mem_nil⟩
def gi_104_0 : List (Nat × Instr × Nat) := [(0, .aload_n 0, 1), (1, .getfield 12, 3), (4, .iload_n 1, 1), (5, .invokevirtual 71, 3), (8, .checkcast 50, 3), (11, .astore 4, 2), (13, .aload_n 0, 1), (14, .getfield 12, 3), (17, .iload_n 3, 1), (18, .invokevirtual 71, 3), (21, .checkcast 50, 3), (24, .astore 5, 2), (26, .iload_n 1, 1), (27, .iload_n 3, 1), (28, .if_icmp .eq 23, 3), (31, .iload_n 1, 1)]
set_option maxRecDepth 100000 in
theorem gv_104_0 : g_okc cX6_touches gi_104_0 = true := by decide +kernel
def gi_104_1 : List (Nat × Instr × Nat) := [(32, .iload_n 3, 1), (33, .isub, 1), (34, .invokestatic 75, 3), (37, .aload 4, 2), (39, .bipush 10, 2), (41, .iaload, 1), (42, .aload 5, 2), (44, .bipush 10, 2), (46, .iaload, 1), (47, .iadd, 1), (48, .if_icmp .le 5, 3), (51, .iconst 0, 1), (52, .ireturn, 1), (53, .iload_n 2, 1), (54, .aload 4, 2), (56, .bipush 9, 2), (58, .iaload, 1), (59, .isub, 1), (60, .aload 5, 2), (62, .iconst 2, 1), (63, .iaload, 1)]
set_option maxRecDepth 100000 in
theorem gv_104_1 : g_okc cX6_touches gi_104_1 = true := by decide +kernel
def gi_104_2 : List (Nat × Instr × Nat) := [(64, .if_icmp .gt 21, 3), (67, .aload 5, 2), (69, .iconst 2, 1), (70, .iaload, 1), (71, .aload 5, 2), (73, .bipush 9, 2), (75, .iaload, 1), (76, .isub, 1), (77, .iload_n 2, 1), (78, .if_icmp .gt 7, 3), (81, .iconst 1, 1), (82, .goto 4, 3), (85, .iconst 0, 1), (86, .ireturn, 1)]
set_option maxRecDepth 100000 in
theorem gv_104_2 : g_okc cX6_touches gi_104_2 = true := by decide +kernel
def gi_104 : List (List (Nat × Instr × Nat)) := [gi_104_0, gi_104_1, gi_104_2]
theorem gv_104 : ∀ ch ∈ gi_104, g_okc cX6_touches ch = true := List.forall_mem_cons.mpr ⟨gv_104_0, List.forall_mem_cons.mpr ⟨gv_104_1, List.forall_mem_cons.mpr ⟨gv_104_2, fun _ h => absurd h List.not_mem_nil⟩⟩⟩
def gi_105_0 : List (Nat × Instr × Nat) := [(0, .iconst 0, 1), (1, .istore_n 3, 1), (2, .iload_n 3, 1), (3, .aload_n 0, 1), (4, .getfield 12, 3), (7, .invokevirtual 81, 3), (10, .if_icmp .ge 43, 3), (13, .aload_n 0, 1), (14, .iload_n 1, 1), (15, .iload_n 2, 1), (16, .iload_n 3, 1), (17, .invokevirtual 85, 3), (20, .ifCond .eq 27, 3), (23, .aload_n 0, 1), (24, .iload_n 1, 1), (25, .aload_n 0, 1), (26, .getfield 12, 3), (29, .iload_n 1, 1), (30, .invokevirtual 71, 3)]
set_option maxRecDepth 100000 in
theorem gv_105_0 : g_okc cX6_isHeld gi_105_0 = true := by decide +kernel
def gi_105_1 : List (Nat × Instr × Nat) := [(33, .checkcast 50, 3), (36, .iconst 2, 1), (37, .iaload, 1), (38, .iload_n 3, 1), (39, .invokevirtual 85, 3), (42, .ifCond .ne 5, 3), (45, .iconst 1, 1), (46, .ireturn, 1), (47, .iinc 3 1, 3), (50, .goto (-48), 3), (53, .iconst 0, 1), (54, .ireturn, 1)]
set_option maxRecDepth 100000 in
theorem gv_105_1 : g_okc cX6_isHeld gi_105_1 = true := by decide +kernel
def gi_105 : List (List (Nat × Instr × Nat)) := [gi_105_0, gi_105_1]
theorem gv_105 : ∀ ch ∈ gi_105, g_okc cX6_isHeld ch = true := List.forall_mem_cons.mpr ⟨gv_105_0, List.forall_mem_cons.mpr ⟨gv_105_1, fun _ h => absurd h List.not_mem_nil⟩⟩
def gi_106_0 : List (Nat × Instr × Nat) := [(0, .aload_n 0, 1), (1, .getfield 12, 3), (4, .iload_n 1, 1), (5, .invokevirtual 71, 3), (8, .checkcast 50, 3), (11, .astore_n 3, 1), (12, .aload_n 3, 1), (13, .bipush 7, 2), (15, .dup2, 1), (16, .iaload, 1), (17, .iload_n 2, 1), (18, .aload_n 3, 1), (19, .iconst 2, 1), (20, .iaload, 1), (21, .isub, 1), (22, .invokestatic 75, 3), (25, .iadd, 1), (26, .iastore, 1), (27, .aload_n 3, 1), (28, .iconst 2, 1), (29, .iload_n 2, 1), (30, .iastore, 1), (31, .return_, 1)]
set_option maxRecDepth 100000 in
theorem gv_106_0 : g_okc cX6_put gi_106_0 = true := by decide +kernel
def gi_106 : List (List (Nat × Instr × Nat)) := [gi_106_0]
theorem gv_106 : ∀ ch ∈ gi_106, g_okc cX6_put ch = true := List.forall_mem_cons.mpr ⟨gv_106_0, fun _ h => absurd h List.not_mem_nil⟩
def gi_107_0 : List (Nat × Instr × Nat) := [(0, .aload_n 0, 1), (1, .getfield 12, 3), (4, .aload_n 1, 1), (5, .iconst 0, 1), (6, .iaload, 1), (7, .invokevirtual 71, 3), (10, .checkcast 50, 3), (13, .astore_n 2, 1), (14, .aload_n 1, 1), (15, .iconst 1, 1), (16, .iaload, 1), (17, .aload_n 2, 1), (18, .iconst 2, 1), (19, .iaload, 1), (20, .isub, 1), (21, .istore_n 3, 1), (22, .aload_n 2, 1), (23, .iconst 2, 1), (24, .iaload, 1), (25, .aload_n 1, 1), (26, .iconst 2, 1), (27, .iaload, 1), (28, .ineg, 1), (29, .aload_n 1, 1), (30, .iconst 2, 1), (31, .iaload, 1)]
set_option maxRecDepth 100000 in
theorem gv_107_0 : g_okc cX6_go gi_107_0 = true := by decide +kernel
def gi_107_1 : List (Nat × Instr × Nat) := [(32, .iload_n 3, 1), (33, .invokestatic 124, 3), (36, .invokestatic 128, 3), (39, .iadd, 1), (40, .istore 4, 2), (42, .aload_n 0, 1), (43, .aload_n 1, 1), (44, .iconst 0, 1), (45, .iaload, 1), (46, .iload 4, 2), (48, .invokevirtual 131, 3), (51, .ifCond .eq 35, 3), (54, .aload_n 0, 1), (55, .iconst 1, 1), (56, .putfield 64, 3), (59, .aload_n 0, 1), (60, .dup, 1), (61, .getfield 135, 3)]
set_option maxRecDepth 100000 in
theorem gv_107_1 : g_okc cX6_go gi_107_1 = true := by decide +kernel
def gi_107_2 : List (Nat × Instr × Nat) := [(64, .iconst 1, 1), (65, .iadd, 1), (66, .putfield 135, 3), (69, .aload_n 0, 1), (70, .getfield 32, 3), (73, .iconst (-1), 1), (74, .if_icmp .ne 10, 3), (77, .aload_n 0, 1), (78, .aload_n 1, 1), (79, .iconst 0, 1), (80, .iaload, 1), (81, .putfield 32, 3), (84, .iconst 0, 1), (85, .ireturn, 1), (86, .aload_n 0, 1), (87, .aload_n 1, 1), (88, .iconst 0, 1), (89, .iaload, 1), (90, .iload 4, 2), (92, .invokevirtual 138, 3), (95, .iload 4, 2)]
set_option maxRecDepth 100000 in
theorem gv_107_2 : g_okc cX6_go gi_107_2 = true := by decide +kernel
def gi_107_3 : List (Nat × Instr × Nat) := [(97, .aload_n 1, 1), (98, .iconst 1, 1), (99, .iaload, 1), (100, .if_icmp .eq 5, 3), (103, .iconst 0, 1), (104, .ireturn, 1), (105, .aload_n 1, 1), (106, .iconst 4, 1), (107, .iconst 1, 1), (108, .iastore, 1), (109, .iconst 1, 1), (110, .ireturn, 1)]
set_option maxRecDepth 100000 in
theorem gv_107_3 : g_okc cX6_go gi_107_3 = true := by decide +kernel
def gi_107 : List (List (Nat × Instr × Nat)) := [gi_107_0, gi_107_1, gi_107_2, gi_107_3]
theorem gv_107 : ∀ ch ∈ gi_107, g_okc cX6_go ch = true := List.forall_mem_cons.mpr ⟨gv_107_0, List.forall_mem_cons.mpr ⟨gv_107_1, List.forall_mem_cons.mpr ⟨gv_107_2, List.forall_mem_cons.mpr ⟨gv_107_3, fun _ h => absurd h List.not_mem_nil⟩⟩⟩⟩
def gi_108_0 : List (Nat × Instr × Nat) := [(0, .iconst 0, 1), (1, .istore_n 1, 1), (2, .iconst 0, 1), (3, .istore_n 2, 1), (4, .aload_n 0, 1), (5, .dup, 1), (6, .getfield 68, 3), (9, .iconst 1, 1), (10, .iadd, 1), (11, .putfield 68, 3), (14, .aload_n 0, 1), (15, .getfield 18, 3), (18, .aload_n 0, 1), (19, .getfield 29, 3), (22, .invokevirtual 71, 3), (25, .checkcast 9, 3), (28, .invokevirtual 36, 3), (31, .astore_n 3, 1)]
set_option maxRecDepth 100000 in
theorem gv_108_0 : g_okc cX6_act gi_108_0 = true := by decide +kernel
def gi_108_1 : List (Nat × Instr × Nat) := [(32, .aload_n 3, 1), (33, .invokeinterface 40 1, 5), (38, .ifCond .eq 179, 3), (41, .aload_n 3, 1), (42, .invokeinterface 46 1, 5), (47, .checkcast 50, 3), (50, .astore 4, 2), (52, .aload 4, 2), (54, .iconst 4, 1), (55, .iaload, 1), (56, .ifCond .ne (-24), 3), (59, .aload 4, 2), (61, .iconst 3, 1), (62, .iaload, 1), (63, .aload_n 0, 1)]
set_option maxRecDepth 100000 in
theorem gv_108_1 : g_okc cX6_act gi_108_1 = true := by decide +kernel
def gi_108_2 : List (Nat × Instr × Nat) := [(64, .getfield 68, 3), (67, .iconst 1, 1), (68, .isub, 1), (69, .if_icmp .gt (-37), 3), (72, .aload_n 0, 1), (73, .getfield 64, 3), (76, .ifCond .eq 6, 3), (79, .goto (-47), 3), (82, .aload_n 0, 1), (83, .getfield 12, 3), (86, .aload 4, 2), (88, .iconst 0, 1), (89, .iaload, 1), (90, .invokevirtual 71, 3), (93, .checkcast 50, 3)]
set_option maxRecDepth 100000 in
theorem gv_108_2 : g_okc cX6_act gi_108_2 = true := by decide +kernel
def gi_108_3 : List (Nat × Instr × Nat) := [(96, .astore 5, 2), (98, .aload 5, 2), (100, .iconst 0, 1), (101, .iaload, 1), (102, .ifCond .ne 7, 3), (105, .iconst 1, 1), (106, .goto 4, 3), (109, .iconst 0, 1), (110, .istore 6, 2), (112, .aload 5, 2), (114, .invokestatic 111, 3), (117, .invokestatic 75, 3), (120, .bipush 10, 2), (122, .if_icmp .le 21, 3), (125, .aload 4, 2), (127, .iconst 4, 1)]
set_option maxRecDepth 100000 in
theorem gv_108_3 : g_okc cX6_act gi_108_3 = true := by decide +kernel
def gi_108_4 : List (Nat × Instr × Nat) := [(128, .iconst 2, 1), (129, .iastore, 1), (130, .aload_n 0, 1), (131, .dup, 1), (132, .getfield 115, 3), (135, .iconst 1, 1), (136, .iadd, 1), (137, .putfield 115, 3), (140, .goto 74, 3), (143, .iload 6, 2), (145, .ifCond .eq 11, 3), (148, .iload_n 2, 1), (149, .aload_n 0, 1), (150, .getfield 25, 3), (153, .if_icmp .eq 18, 3), (156, .aload 5, 2), (158, .iconst 4, 1), (159, .iaload, 1)]
set_option maxRecDepth 100000 in
theorem gv_108_4 : g_okc cX6_act gi_108_4 = true := by decide +kernel
def gi_108_5 : List (Nat × Instr × Nat) := [(160, .iconst 1, 1), (161, .if_icmp .ne 31, 3), (164, .aload 5, 2), (166, .iconst 5, 1), (167, .iaload, 1), (168, .ifCond .ne 24, 3), (171, .aload 4, 2), (173, .iconst 5, 1), (174, .dup2, 1), (175, .iaload, 1), (176, .iconst 1, 1), (177, .iadd, 1), (178, .iastore, 1), (179, .aload_n 0, 1), (180, .dup, 1), (181, .getfield 118, 3), (184, .iconst 1, 1), (185, .iadd, 1), (186, .putfield 118, 3), (189, .goto 25, 3)]
set_option maxRecDepth 100000 in
theorem gv_108_5 : g_okc cX6_act gi_108_5 = true := by decide +kernel
def gi_108_6 : List (Nat × Instr × Nat) := [(192, .iload_n 2, 1), (193, .iload 6, 2), (195, .ifCond .eq 7, 3), (198, .iconst 1, 1), (199, .goto 4, 3), (202, .iconst 0, 1), (203, .iadd, 1), (204, .istore_n 2, 1), (205, .iload_n 1, 1), (206, .aload_n 0, 1), (207, .aload 4, 2), (209, .invokevirtual 121, 3), (212, .iadd, 1), (213, .istore_n 1, 1), (214, .goto (-182), 3), (217, .iload_n 1, 1), (218, .ireturn, 1)]
set_option maxRecDepth 100000 in
theorem gv_108_6 : g_okc cX6_act gi_108_6 = true := by decide +kernel
def gi_108 : List (List (Nat × Instr × Nat)) := [gi_108_0, gi_108_1, gi_108_2, gi_108_3, gi_108_4, gi_108_5, gi_108_6]
theorem gv_108 : ∀ ch ∈ gi_108, g_okc cX6_act ch = true := List.forall_mem_cons.mpr ⟨gv_108_0, List.forall_mem_cons.mpr ⟨gv_108_1, List.forall_mem_cons.mpr ⟨gv_108_2, List.forall_mem_cons.mpr ⟨gv_108_3, List.forall_mem_cons.mpr ⟨gv_108_4, List.forall_mem_cons.mpr ⟨gv_108_5, List.forall_mem_cons.mpr ⟨gv_108_6, fun _ h => absurd h List.not_mem_nil⟩⟩⟩⟩⟩⟩⟩
def gi_109_0 : List (Nat × Instr × Nat) := [(0, .aload_n 0, 1), (1, .getfield 12, 3), (4, .iload_n 1, 1), (5, .invokevirtual 71, 3), (8, .checkcast 50, 3), (11, .astore_n 2, 1), (12, .aload_n 2, 1), (13, .invokestatic 111, 3), (16, .istore_n 3, 1), (17, .bipush 8, 2), (19, .iload_n 3, 1), (20, .invokestatic 75, 3), (23, .bipush 9, 2), (25, .iadd, 1), (26, .bipush 10, 2), (28, .idiv, 1), (29, .invokestatic 124, 3)]
set_option maxRecDepth 100000 in
theorem gv_109_0 : g_okc cX6_runAway gi_109_0 = true := by decide +kernel
def gi_109_1 : List (Nat × Instr × Nat) := [(32, .istore 4, 2), (34, .iload_n 3, 1), (35, .ifCond .le 7, 3), (38, .iconst (-1), 1), (39, .goto 4, 3), (42, .iconst 1, 1), (43, .istore 5, 2), (45, .iconst 0, 1), (46, .istore 6, 2), (48, .iload 4, 2), (50, .ifCond .le 51, 3), (53, .aload_n 2, 1), (54, .iconst 2, 1), (55, .iaload, 1), (56, .iload 5, 2), (58, .iadd, 1), (59, .istore 7, 2), (61, .iload 7, 2), (63, .iconst 0, 1)]
set_option maxRecDepth 100000 in
theorem gv_109_1 : g_okc cX6_runAway gi_109_1 = true := by decide +kernel
def gi_109_2 : List (Nat × Instr × Nat) := [(64, .bipush 120, 2), (66, .invokestatic 142, 3), (69, .ifCond .eq 32, 3), (72, .aload_n 0, 1), (73, .iload_n 1, 1), (74, .iload 7, 2), (76, .invokevirtual 131, 3), (79, .ifCond .eq 6, 3), (82, .goto 19, 3), (85, .aload_n 0, 1), (86, .iload_n 1, 1), (87, .iload 7, 2), (89, .invokevirtual 138, 3), (92, .iinc 6 1, 3), (95, .iinc 4 (-1), 3)]
set_option maxRecDepth 100000 in
theorem gv_109_2 : g_okc cX6_runAway gi_109_2 = true := by decide +kernel
def gi_109_3 : List (Nat × Instr × Nat) := [(98, .goto (-50), 3), (101, .iload 6, 2), (103, .iconst 4, 1), (104, .if_icmp .lt 27, 3), (107, .aload_n 2, 1), (108, .iconst 2, 1), (109, .iaload, 1), (110, .ifCond .eq 11, 3), (113, .aload_n 2, 1), (114, .iconst 2, 1), (115, .iaload, 1), (116, .bipush 120, 2), (118, .if_icmp .ne 13, 3), (121, .aload_n 0, 1), (122, .dup, 1), (123, .getfield 145, 3), (126, .iconst 1, 1), (127, .iadd, 1)]
set_option maxRecDepth 100000 in
theorem gv_109_3 : g_okc cX6_runAway gi_109_3 = true := by decide +kernel
def gi_109_4 : List (Nat × Instr × Nat) := [(128, .putfield 145, 3), (131, .iload 6, 2), (133, .ifCond .le 33, 3), (136, .iload 5, 2), (138, .ifCond .ge 28, 3), (141, .aload_n 2, 1), (142, .iconst 2, 1), (143, .iaload, 1), (144, .bipush 20, 2), (146, .if_icmp .gt 20, 3), (149, .aload_n 2, 1), (150, .iconst 4, 1), (151, .iaload, 1), (152, .iconst 1, 1), (153, .if_icmp .ne 13, 3), (156, .aload_n 0, 1), (157, .dup, 1), (158, .getfield 148, 3)]
set_option maxRecDepth 100000 in
theorem gv_109_4 : g_okc cX6_runAway gi_109_4 = true := by decide +kernel
def gi_109_5 : List (Nat × Instr × Nat) := [(161, .iconst 1, 1), (162, .iadd, 1), (163, .putfield 148, 3), (166, .return_, 1)]
set_option maxRecDepth 100000 in
theorem gv_109_5 : g_okc cX6_runAway gi_109_5 = true := by decide +kernel
def gi_109 : List (List (Nat × Instr × Nat)) := [gi_109_0, gi_109_1, gi_109_2, gi_109_3, gi_109_4, gi_109_5]
theorem gv_109 : ∀ ch ∈ gi_109, g_okc cX6_runAway ch = true := List.forall_mem_cons.mpr ⟨gv_109_0, List.forall_mem_cons.mpr ⟨gv_109_1, List.forall_mem_cons.mpr ⟨gv_109_2, List.forall_mem_cons.mpr ⟨gv_109_3, List.forall_mem_cons.mpr ⟨gv_109_4, List.forall_mem_cons.mpr ⟨gv_109_5, fun _ h => absurd h List.not_mem_nil⟩⟩⟩⟩⟩⟩
