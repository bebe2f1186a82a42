theorem jv_eq {o : Option (Nat × Nat × Nat × Nat × Nat × Nat × Nat × Nat × Option String)} {a1 a2 a3 a4 a5 a6 a7 a8 : Nat} {h : Option String} (hh : (match o with
    | some (b1, b2, b3, b4, b5, b6, b7, b8, g) => decide (b1 = a1) && (decide (b2 = a2) && (decide (b3 = a3) && (decide (b4 = a4) && (decide (b5 = a5) && (decide (b6 = a6) && (decide (b7 = a7) && (decide (b8 = a8) && (decide (g = h)))))))))
    | none => false) = true) : o = some (a1, a2, a3, a4, a5, a6, a7, a8, h) := by
  split at hh
  · simp only [Bool.and_eq_true, decide_eq_true_eq] at hh
    obtain ⟨rfl, rfl, rfl, rfl, rfl, rfl, rfl, rfl, rfl⟩ := hh
    rfl
  · cases hh
theorem t_0_0 : g_ft 0 0 = .int := by decide +kernel
theorem t_0_1 : g_ft 0 1 = .boolean := by decide +kernel
theorem t_0_2 : g_ft 0 2 = .int := by decide +kernel
theorem t_0_3 : g_ft 0 3 = .int := by decide +kernel
theorem t_0_4 : g_ft 0 4 = .int := by decide +kernel
theorem t_0_5 : g_ft 0 5 = .int := by decide +kernel
theorem t_0_6 : g_ft 0 6 = .int := by decide +kernel
theorem t_0_7 : g_ft 0 7 = .int := by decide +kernel
theorem t_0_8 : g_ft 0 8 = .boolean := by decide +kernel
theorem t_0_9 : g_ft 0 9 = .boolean := by decide +kernel
theorem t_0_10 : g_ft 0 10 = .boolean := by decide +kernel
theorem t_0_11 : g_ft 0 11 = .int := by decide +kernel
theorem t_0_12 : g_ft 0 12 = .int := by decide +kernel
theorem t_1_1 : g_ft 1 1 = .int := by decide +kernel
theorem t_1_2 : g_ft 1 2 = .int := by decide +kernel
theorem t_2_0 : g_ft 2 0 = .int := by decide +kernel
theorem t_2_1 : g_ft 2 1 = .int := by decide +kernel
theorem t_2_2 : g_ft 2 2 = .int := by decide +kernel
theorem t_2_3 : g_ft 2 3 = .int := by decide +kernel
theorem t_2_4 : g_ft 2 4 = .int := by decide +kernel
theorem t_2_5 : g_ft 2 5 = .int := by decide +kernel
theorem t_3_0 : g_ft 3 0 = .int := by decide +kernel
theorem t_3_1 : g_ft 3 1 = .int := by decide +kernel
theorem t_3_2 : g_ft 3 2 = .int := by decide +kernel
theorem t_3_3 : g_ft 3 3 = .int := by decide +kernel
theorem t_4_1 : g_ft 4 1 = .int := by decide +kernel
theorem t_4_3 : g_ft 4 3 = .int := by decide +kernel
theorem t_4_4 : g_ft 4 4 = .int := by decide +kernel
theorem t_4_5 : g_ft 4 5 = .int := by decide +kernel
theorem t_4_6 : g_ft 4 6 = .int := by decide +kernel
theorem t_4_7 : g_ft 4 7 = .int := by decide +kernel
theorem t_4_8 : g_ft 4 8 = .boolean := by decide +kernel
theorem t_4_9 : g_ft 4 9 = .int := by decide +kernel
theorem t_4_10 : g_ft 4 10 = .int := by decide +kernel
theorem t_4_11 : g_ft 4 11 = .int := by decide +kernel
theorem t_4_12 : g_ft 4 12 = .int := by decide +kernel
theorem t_4_13 : g_ft 4 13 = .int := by decide +kernel
theorem t_4_14 : g_ft 4 14 = .int := by decide +kernel
theorem t_4_15 : g_ft 4 15 = .int := by decide +kernel
theorem t_4_16 : g_ft 4 16 = .int := by decide +kernel
theorem t_4_17 : g_ft 4 17 = .int := by decide +kernel
theorem t_5_3 : g_ft 5 3 = .int := by decide +kernel
theorem r_0 : gR 0 = none := by decide +kernel
theorem l_0 : gLo 0 = 2 := by decide +kernel
theorem i_0_0 : gI 0 0 = some (.aload_n 0, 1) := by decide +kernel
theorem i_0_1 : gI 0 1 = some (.invokespecial 1, 3) := by decide +kernel
theorem v_0_1 : gIv 0 1 = some (0, 0, 100, 0, 73, 59, 60, 0, none) := jv_eq (by decide +kernel)
theorem i_0_4 : gI 0 4 = some (.aload_n 0, 1) := by decide +kernel
theorem i_0_5 : gI 0 5 = some (.iconst 1, 1) := by decide +kernel
theorem i_0_6 : gI 0 6 = some (.putfield 7, 3) := by decide +kernel
theorem f_0_7 : gFld 0 7 = some (0, 9, 96, none, "FlyTower$Bar") := by decide +kernel
theorem i_0_9 : gI 0 9 = some (.aload_n 0, 1) := by decide +kernel
theorem i_0_10 : gI 0 10 = some (.iload_n 1, 1) := by decide +kernel
theorem i_0_11 : gI 0 11 = some (.putfield 13, 3) := by decide +kernel
theorem f_0_13 : gFld 0 13 = some (0, 0, 74, none, "FlyTower$Bar") := by decide +kernel
theorem i_0_14 : gI 0 14 = some (.return_, 1) := by decide +kernel
theorem r_1 : gR 1 = none := by decide +kernel
theorem l_1 : gLo 1 = 1 := by decide +kernel
theorem i_1_0 : gI 1 0 = some (.aload_n 0, 1) := by decide +kernel
theorem i_1_1 : gI 1 1 = some (.invokespecial 3, 3) := by decide +kernel
theorem v_1_3 : gIv 1 3 = some (0, 0, 100, 0, 146, 59, 60, 0, none) := jv_eq (by decide +kernel)
theorem i_1_4 : gI 1 4 = some (.aload_n 0, 1) := by decide +kernel
theorem i_1_5 : gI 1 5 = some (.iconst (-1), 1) := by decide +kernel
theorem i_1_6 : gI 1 6 = some (.putfield 9, 3) := by decide +kernel
theorem f_1_9 : gFld 1 9 = some (2, 4, 160, none, "FlyTower$Move") := by decide +kernel
theorem i_1_9 : gI 1 9 = some (.return_, 1) := by decide +kernel
theorem r_2 : gR 2 = none := by decide +kernel
theorem l_2 : gLo 2 = 2 := by decide +kernel
theorem i_2_0 : gI 2 0 = some (.aload_n 0, 1) := by decide +kernel
theorem i_2_1 : gI 2 1 = some (.invokespecial 3, 3) := by decide +kernel
theorem v_2_3 : gIv 2 3 = some (0, 0, 100, 0, 139, 59, 60, 0, none) := jv_eq (by decide +kernel)
theorem i_2_4 : gI 2 4 = some (.aload_n 0, 1) := by decide +kernel
theorem i_2_5 : gI 2 5 = some (.iconst (-1), 1) := by decide +kernel
theorem i_2_6 : gI 2 6 = some (.putfield 9, 3) := by decide +kernel
theorem f_2_9 : gFld 2 9 = some (1, 2, 187, none, "FlyTower$Cue") := by decide +kernel
theorem i_2_9 : gI 2 9 = some (.aload_n 0, 1) := by decide +kernel
theorem i_2_10 : gI 2 10 = some (.bipush 6, 2) := by decide +kernel
theorem i_2_12 : gI 2 12 = some (.anewarray 15, 3) := by decide +kernel
theorem i_2_15 : gI 2 15 = some (.putfield 17, 3) := by decide +kernel
theorem f_2_17 : gFld 2 17 = some (1, 0, 181, none, "FlyTower$Cue") := by decide +kernel
theorem i_2_18 : gI 2 18 = some (.iconst 0, 1) := by decide +kernel
theorem i_2_19 : gI 2 19 = some (.istore_n 1, 1) := by decide +kernel
theorem i_2_20 : gI 2 20 = some (.iload_n 1, 1) := by decide +kernel
theorem i_2_21 : gI 2 21 = some (.bipush 6, 2) := by decide +kernel
theorem i_2_23 : gI 2 23 = some (.if_icmp .ge 22, 3) := by decide +kernel
theorem i_2_26 : gI 2 26 = some (.aload_n 0, 1) := by decide +kernel
theorem i_2_27 : gI 2 27 = some (.getfield 17, 3) := by decide +kernel
theorem i_2_30 : gI 2 30 = some (.iload_n 1, 1) := by decide +kernel
theorem i_2_31 : gI 2 31 = some (.new 15, 3) := by decide +kernel
theorem i_2_34 : gI 2 34 = some (.dup, 1) := by decide +kernel
theorem i_2_35 : gI 2 35 = some (.invokespecial 21, 3) := by decide +kernel
theorem v_2_21 : gIv 2 21 = some (1, 0, 5, 2, 143, 144, 0, 0, some "FlyTower") := jv_eq (by decide +kernel)
theorem i_2_38 : gI 2 38 = some (.aastore, 1) := by decide +kernel
theorem i_2_39 : gI 2 39 = some (.iinc 1 1, 3) := by decide +kernel
theorem i_2_42 : gI 2 42 = some (.goto (-22), 3) := by decide +kernel
theorem i_2_45 : gI 2 45 = some (.return_, 1) := by decide +kernel
theorem r_3 : gR 3 = none := by decide +kernel
theorem l_3 : gLo 3 = 2 := by decide +kernel
theorem i_3_0 : gI 3 0 = some (.aload_n 0, 1) := by decide +kernel
theorem i_3_1 : gI 3 1 = some (.invokespecial 3, 3) := by decide +kernel
theorem v_3_3 : gIv 3 3 = some (0, 0, 100, 0, 66, 59, 60, 0, none) := jv_eq (by decide +kernel)
theorem i_3_4 : gI 3 4 = some (.aload_n 0, 1) := by decide +kernel
theorem i_3_5 : gI 3 5 = some (.iconst 2, 1) := by decide +kernel
theorem i_3_6 : gI 3 6 = some (.putfield 9, 3) := by decide +kernel
theorem f_3_9 : gFld 3 9 = some (4, 4, 205, none, "FlyTower$Rig") := by decide +kernel
theorem i_3_9 : gI 3 9 = some (.aload_n 0, 1) := by decide +kernel
theorem i_3_10 : gI 3 10 = some (.iconst (-1), 1) := by decide +kernel
theorem i_3_11 : gI 3 11 = some (.putfield 15, 3) := by decide +kernel
theorem f_3_15 : gFld 3 15 = some (4, 7, 210, none, "FlyTower$Rig") := by decide +kernel
theorem i_3_14 : gI 3 14 = some (.aload_n 0, 1) := by decide +kernel
theorem i_3_15 : gI 3 15 = some (.iconst (-1), 1) := by decide +kernel
theorem i_3_16 : gI 3 16 = some (.putfield 18, 3) := by decide +kernel
theorem f_3_18 : gFld 3 18 = some (4, 17, 230, none, "FlyTower$Rig") := by decide +kernel
theorem i_3_19 : gI 3 19 = some (.aload_n 0, 1) := by decide +kernel
theorem i_3_20 : gI 3 20 = some (.bipush 8, 2) := by decide +kernel
theorem i_3_22 : gI 3 22 = some (.anewarray 21, 3) := by decide +kernel
theorem i_3_25 : gI 3 25 = some (.putfield 23, 3) := by decide +kernel
theorem f_3_23 : gFld 3 23 = some (4, 0, 197, none, "FlyTower$Rig") := by decide +kernel
theorem i_3_28 : gI 3 28 = some (.iconst 0, 1) := by decide +kernel
theorem i_3_29 : gI 3 29 = some (.istore_n 1, 1) := by decide +kernel
theorem i_3_30 : gI 3 30 = some (.iload_n 1, 1) := by decide +kernel
theorem i_3_31 : gI 3 31 = some (.bipush 8, 2) := by decide +kernel
theorem i_3_33 : gI 3 33 = some (.if_icmp .ge 23, 3) := by decide +kernel
theorem i_3_36 : gI 3 36 = some (.aload_n 0, 1) := by decide +kernel
theorem i_3_37 : gI 3 37 = some (.getfield 23, 3) := by decide +kernel
theorem i_3_40 : gI 3 40 = some (.iload_n 1, 1) := by decide +kernel
theorem i_3_41 : gI 3 41 = some (.new 21, 3) := by decide +kernel
theorem i_3_44 : gI 3 44 = some (.dup, 1) := by decide +kernel
theorem i_3_45 : gI 3 45 = some (.iload_n 1, 1) := by decide +kernel
theorem i_3_46 : gI 3 46 = some (.invokespecial 27, 3) := by decide +kernel
theorem v_3_27 : gIv 3 27 = some (0, 1, 5, 0, 70, 71, 0, 0, some "FlyTower") := jv_eq (by decide +kernel)
theorem i_3_49 : gI 3 49 = some (.aastore, 1) := by decide +kernel
theorem i_3_50 : gI 3 50 = some (.iinc 1 1, 3) := by decide +kernel
theorem i_3_53 : gI 3 53 = some (.goto (-23), 3) := by decide +kernel
theorem i_3_56 : gI 3 56 = some (.aload_n 0, 1) := by decide +kernel
theorem i_3_57 : gI 3 57 = some (.bipush 6, 2) := by decide +kernel
theorem i_3_59 : gI 3 59 = some (.anewarray 30, 3) := by decide +kernel
theorem i_3_62 : gI 3 62 = some (.putfield 32, 3) := by decide +kernel
theorem f_3_32 : gFld 3 32 = some (4, 2, 201, none, "FlyTower$Rig") := by decide +kernel
theorem i_3_65 : gI 3 65 = some (.iconst 0, 1) := by decide +kernel
theorem i_3_66 : gI 3 66 = some (.istore_n 1, 1) := by decide +kernel
theorem i_3_67 : gI 3 67 = some (.iload_n 1, 1) := by decide +kernel
theorem i_3_68 : gI 3 68 = some (.bipush 6, 2) := by decide +kernel
theorem i_3_70 : gI 3 70 = some (.if_icmp .ge 22, 3) := by decide +kernel
theorem i_3_73 : gI 3 73 = some (.aload_n 0, 1) := by decide +kernel
theorem i_3_74 : gI 3 74 = some (.getfield 32, 3) := by decide +kernel
theorem i_3_77 : gI 3 77 = some (.iload_n 1, 1) := by decide +kernel
theorem i_3_78 : gI 3 78 = some (.new 30, 3) := by decide +kernel
theorem i_3_81 : gI 3 81 = some (.dup, 1) := by decide +kernel
theorem i_3_82 : gI 3 82 = some (.invokespecial 36, 3) := by decide +kernel
theorem v_3_36 : gIv 3 36 = some (2, 0, 5, 1, 136, 137, 0, 0, some "FlyTower") := jv_eq (by decide +kernel)
theorem i_3_85 : gI 3 85 = some (.aastore, 1) := by decide +kernel
theorem i_3_86 : gI 3 86 = some (.iinc 1 1, 3) := by decide +kernel
theorem i_3_89 : gI 3 89 = some (.goto (-22), 3) := by decide +kernel
theorem i_3_92 : gI 3 92 = some (.return_, 1) := by decide +kernel
theorem r_4 : gR 4 = none := by decide +kernel
theorem l_4 : gLo 4 = 1 := by decide +kernel
theorem i_4_0 : gI 4 0 = some (.aload_n 0, 1) := by decide +kernel
theorem i_4_1 : gI 4 1 = some (.invokespecial 3, 3) := by decide +kernel
theorem v_4_3 : gIv 4 3 = some (0, 0, 100, 0, 275, 59, 60, 0, none) := jv_eq (by decide +kernel)
theorem i_4_4 : gI 4 4 = some (.aload_n 0, 1) := by decide +kernel
theorem i_4_5 : gI 4 5 = some (.iconst (-1), 1) := by decide +kernel
theorem i_4_6 : gI 4 6 = some (.putfield 9, 3) := by decide +kernel
theorem f_4_9 : gFld 4 9 = some (3, 3, 279, none, "FlyTower$Piece") := by decide +kernel
theorem i_4_9 : gI 4 9 = some (.return_, 1) := by decide +kernel
theorem r_5 : gR 5 = none := by decide +kernel
theorem l_5 : gLo 5 = 2 := by decide +kernel
theorem i_5_0 : gI 5 0 = some (.aload_n 0, 1) := by decide +kernel
theorem i_5_1 : gI 5 1 = some (.invokespecial 1, 3) := by decide +kernel
theorem v_5_1 : gIv 5 1 = some (0, 0, 100, 0, 58, 59, 60, 0, none) := jv_eq (by decide +kernel)
theorem i_5_4 : gI 5 4 = some (.aload_n 0, 1) := by decide +kernel
theorem i_5_5 : gI 5 5 = some (.new 7, 3) := by decide +kernel
theorem i_5_8 : gI 5 8 = some (.dup, 1) := by decide +kernel
theorem i_5_9 : gI 5 9 = some (.invokespecial 9, 3) := by decide +kernel
theorem v_5_9 : gIv 5 9 = some (3, 0, 5, 4, 63, 64, 0, 0, some "FlyTower") := jv_eq (by decide +kernel)
theorem i_5_12 : gI 5 12 = some (.putfield 10, 3) := by decide +kernel
theorem f_5_10 : gFld 5 10 = some (5, 0, 290, none, "FlyTower") := by decide +kernel
theorem i_5_15 : gI 5 15 = some (.aload_n 0, 1) := by decide +kernel
theorem i_5_16 : gI 5 16 = some (.new 7, 3) := by decide +kernel
theorem i_5_19 : gI 5 19 = some (.dup, 1) := by decide +kernel
theorem i_5_20 : gI 5 20 = some (.invokespecial 9, 3) := by decide +kernel
theorem i_5_23 : gI 5 23 = some (.putfield 16, 3) := by decide +kernel
theorem f_5_16 : gFld 5 16 = some (5, 1, 291, none, "FlyTower") := by decide +kernel
theorem i_5_26 : gI 5 26 = some (.aload_n 0, 1) := by decide +kernel
theorem i_5_27 : gI 5 27 = some (.bipush 10, 2) := by decide +kernel
theorem i_5_29 : gI 5 29 = some (.anewarray 19, 3) := by decide +kernel
theorem i_5_32 : gI 5 32 = some (.putfield 21, 3) := by decide +kernel
theorem f_5_21 : gFld 5 21 = some (5, 2, 292, none, "FlyTower") := by decide +kernel
theorem i_5_35 : gI 5 35 = some (.iconst 0, 1) := by decide +kernel
theorem i_5_36 : gI 5 36 = some (.istore_n 1, 1) := by decide +kernel
theorem i_5_37 : gI 5 37 = some (.iload_n 1, 1) := by decide +kernel
theorem i_5_38 : gI 5 38 = some (.bipush 10, 2) := by decide +kernel
theorem i_5_40 : gI 5 40 = some (.if_icmp .ge 22, 3) := by decide +kernel
theorem i_5_43 : gI 5 43 = some (.aload_n 0, 1) := by decide +kernel
theorem i_5_44 : gI 5 44 = some (.getfield 21, 3) := by decide +kernel
theorem i_5_47 : gI 5 47 = some (.iload_n 1, 1) := by decide +kernel
theorem i_5_48 : gI 5 48 = some (.new 19, 3) := by decide +kernel
theorem i_5_51 : gI 5 51 = some (.dup, 1) := by decide +kernel
theorem i_5_52 : gI 5 52 = some (.invokespecial 25, 3) := by decide +kernel
theorem v_5_25 : gIv 5 25 = some (4, 0, 5, 3, 272, 273, 0, 0, some "FlyTower") := jv_eq (by decide +kernel)
theorem i_5_55 : gI 5 55 = some (.aastore, 1) := by decide +kernel
theorem i_5_56 : gI 5 56 = some (.iinc 1 1, 3) := by decide +kernel
theorem i_5_59 : gI 5 59 = some (.goto (-22), 3) := by decide +kernel
theorem i_5_62 : gI 5 62 = some (.aload_n 0, 1) := by decide +kernel
theorem i_5_63 : gI 5 63 = some (.bipush 10, 2) := by decide +kernel
theorem i_5_65 : gI 5 65 = some (.newarray .int, 2) := by decide +kernel
theorem i_5_67 : gI 5 67 = some (.putfield 26, 3) := by decide +kernel
theorem f_5_26 : gFld 5 26 = some (5, 4, 294, none, "FlyTower") := by decide +kernel
theorem i_5_70 : gI 5 70 = some (.return_, 1) := by decide +kernel
theorem r_6 : gR 6 = some (.int) := by decide +kernel
theorem l_6 : gLo 6 = 2 := by decide +kernel
theorem i_6_0 : gI 6 0 = some (.iload_n 1, 1) := by decide +kernel
theorem i_6_1 : gI 6 1 = some (.aload_n 0, 1) := by decide +kernel
theorem i_6_2 : gI 6 2 = some (.arraylength, 1) := by decide +kernel
theorem i_6_3 : gI 6 3 = some (.if_icmp .ge 9, 3) := by decide +kernel
theorem i_6_6 : gI 6 6 = some (.aload_n 0, 1) := by decide +kernel
theorem i_6_7 : gI 6 7 = some (.iload_n 1, 1) := by decide +kernel
theorem i_6_8 : gI 6 8 = some (.iaload, 1) := by decide +kernel
theorem i_6_9 : gI 6 9 = some (.goto 9, 3) := by decide +kernel
theorem i_6_12 : gI 6 12 = some (.ldc 8, 2) := by decide +kernel
theorem c_6_8 : gCs 6 8 = some (.int (790386105), 677) := by decide +kernel
theorem i_6_14 : gI 6 14 = some (.iload_n 1, 1) := by decide +kernel
theorem i_6_15 : gI 6 15 = some (.iconst 3, 1) := by decide +kernel
theorem i_6_16 : gI 6 16 = some (.iadd, 1) := by decide +kernel
theorem i_6_17 : gI 6 17 = some (.imul, 1) := by decide +kernel
theorem i_6_18 : gI 6 18 = some (.ireturn, 1) := by decide +kernel
theorem r_7 : gR 7 = some (.int) := by decide +kernel
theorem l_7 : gLo 7 = 2 := by decide +kernel
theorem i_7_0 : gI 7 0 = some (.iload_n 0, 1) := by decide +kernel
theorem i_7_1 : gI 7 1 = some (.ldc 7, 2) := by decide +kernel
theorem c_7_7 : gCs 7 7 = some (.int (2147483647), 673) := by decide +kernel
theorem i_7_3 : gI 7 3 = some (.iand, 1) := by decide +kernel
theorem i_7_4 : gI 7 4 = some (.iload_n 1, 1) := by decide +kernel
theorem i_7_5 : gI 7 5 = some (.irem, 1) := by decide +kernel
theorem i_7_6 : gI 7 6 = some (.ireturn, 1) := by decide +kernel
theorem r_8 : gR 8 = some (.int) := by decide +kernel
theorem l_8 : gLo 8 = 4 := by decide +kernel
theorem th_8_13 : gThr 8 13 = some ("java/lang/IllegalArgumentException", 30, 32, 34, "a LIMIT is 10 to 300", false) := by decide +kernel
theorem th_8_35 : gThr 8 35 = some ("java/lang/IllegalStateException", 41, 43, 45, "there are 8 BARS", false) := by decide +kernel
theorem i_8_0 : gI 8 0 = some (.iload_n 2, 1) := by decide +kernel
theorem i_8_1 : gI 8 1 = some (.bipush 10, 2) := by decide +kernel
theorem i_8_3 : gI 8 3 = some (.if_icmp .lt 10, 3) := by decide +kernel
theorem i_8_6 : gI 8 6 = some (.iload_n 2, 1) := by decide +kernel
theorem i_8_7 : gI 8 7 = some (.sipush 300, 3) := by decide +kernel
theorem i_8_10 : gI 8 10 = some (.if_icmp .le 13, 3) := by decide +kernel
theorem i_8_13 : gI 8 13 = some (.new 30, 3) := by decide +kernel
theorem i_8_16 : gI 8 16 = some (.dup, 1) := by decide +kernel
theorem i_8_17 : gI 8 17 = some (.ldc 32, 2) := by decide +kernel
theorem i_8_19 : gI 8 19 = some (.invokespecial 34, 3) := by decide +kernel
theorem i_8_22 : gI 8 22 = some (.athrow, 1) := by decide +kernel
theorem i_8_23 : gI 8 23 = some (.aload_n 0, 1) := by decide +kernel
theorem i_8_24 : gI 8 24 = some (.getfield 10, 3) := by decide +kernel
theorem f_8_10 : gFld 8 10 = some (5, 0, 290, none, "FlyTower") := by decide +kernel
theorem i_8_27 : gI 8 27 = some (.getfield 37, 3) := by decide +kernel
theorem f_8_37 : gFld 8 37 = some (4, 1, 200, some "FlyTower", "FlyTower$Rig") := by decide +kernel
theorem i_8_30 : gI 8 30 = some (.bipush 8, 2) := by decide +kernel
theorem i_8_32 : gI 8 32 = some (.if_icmp .lt 13, 3) := by decide +kernel
theorem i_8_35 : gI 8 35 = some (.new 41, 3) := by decide +kernel
theorem i_8_38 : gI 8 38 = some (.dup, 1) := by decide +kernel
theorem i_8_39 : gI 8 39 = some (.ldc 43, 2) := by decide +kernel
theorem i_8_41 : gI 8 41 = some (.invokespecial 45, 3) := by decide +kernel
theorem i_8_44 : gI 8 44 = some (.athrow, 1) := by decide +kernel
theorem i_8_45 : gI 8 45 = some (.aload_n 0, 1) := by decide +kernel
theorem i_8_46 : gI 8 46 = some (.getfield 10, 3) := by decide +kernel
theorem i_8_49 : gI 8 49 = some (.getfield 46, 3) := by decide +kernel
theorem f_8_46 : gFld 8 46 = some (4, 0, 198, some "FlyTower", "FlyTower$Rig") := by decide +kernel
theorem i_8_52 : gI 8 52 = some (.aload_n 0, 1) := by decide +kernel
theorem i_8_53 : gI 8 53 = some (.getfield 10, 3) := by decide +kernel
theorem i_8_56 : gI 8 56 = some (.getfield 37, 3) := by decide +kernel
theorem i_8_59 : gI 8 59 = some (.aaload, 1) := by decide +kernel
theorem i_8_60 : gI 8 60 = some (.astore_n 3, 1) := by decide +kernel
theorem i_8_61 : gI 8 61 = some (.aload_n 3, 1) := by decide +kernel
theorem i_8_62 : gI 8 62 = some (.iload_n 1, 1) := by decide +kernel
theorem i_8_63 : gI 8 63 = some (.putfield 50, 3) := by decide +kernel
theorem f_8_50 : gFld 8 50 = some (0, 1, 78, some "FlyTower", "FlyTower$Bar") := by decide +kernel
theorem i_8_66 : gI 8 66 = some (.aload_n 3, 1) := by decide +kernel
theorem i_8_67 : gI 8 67 = some (.iload_n 2, 1) := by decide +kernel
theorem i_8_68 : gI 8 68 = some (.putfield 56, 3) := by decide +kernel
theorem f_8_56 : gFld 8 56 = some (0, 2, 81, some "FlyTower", "FlyTower$Bar") := by decide +kernel
theorem i_8_71 : gI 8 71 = some (.aload_n 0, 1) := by decide +kernel
theorem i_8_72 : gI 8 72 = some (.getfield 10, 3) := by decide +kernel
theorem i_8_75 : gI 8 75 = some (.dup, 1) := by decide +kernel
theorem i_8_76 : gI 8 76 = some (.getfield 37, 3) := by decide +kernel
theorem i_8_79 : gI 8 79 = some (.iconst 1, 1) := by decide +kernel
theorem i_8_80 : gI 8 80 = some (.iadd, 1) := by decide +kernel
theorem i_8_81 : gI 8 81 = some (.putfield 37, 3) := by decide +kernel
theorem i_8_84 : gI 8 84 = some (.aload_n 3, 1) := by decide +kernel
theorem i_8_85 : gI 8 85 = some (.getfield 59, 3) := by decide +kernel
theorem f_8_59 : gFld 8 59 = some (0, 0, 75, some "FlyTower", "FlyTower$Bar") := by decide +kernel
theorem i_8_88 : gI 8 88 = some (.ireturn, 1) := by decide +kernel
theorem r_9 : gR 9 = some (.int) := by decide +kernel
theorem l_9 : gLo 9 = 5 := by decide +kernel
theorem th_9_11 : gThr 9 11 = some ("java/lang/IllegalArgumentException", 30, 62, 34, "a WEIGHT is 1 to 90", false) := by decide +kernel
theorem th_9_31 : gThr 9 31 = some ("java/lang/IllegalArgumentException", 30, 64, 34, "a DROP is 0 to 60", false) := by decide +kernel
theorem th_9_50 : gThr 9 50 = some ("java/lang/IllegalArgumentException", 30, 66, 34, "a THICKNESS is 0 to 2", false) := by decide +kernel
theorem th_9_69 : gThr 9 69 = some ("java/lang/IllegalStateException", 41, 71, 45, "there are 10 PIECES", false) := by decide +kernel
theorem i_9_0 : gI 9 0 = some (.iload_n 1, 1) := by decide +kernel
theorem i_9_1 : gI 9 1 = some (.iconst 1, 1) := by decide +kernel
theorem i_9_2 : gI 9 2 = some (.if_icmp .lt 9, 3) := by decide +kernel
theorem i_9_5 : gI 9 5 = some (.iload_n 1, 1) := by decide +kernel
theorem i_9_6 : gI 9 6 = some (.bipush 90, 2) := by decide +kernel
theorem i_9_8 : gI 9 8 = some (.if_icmp .le 13, 3) := by decide +kernel
theorem i_9_11 : gI 9 11 = some (.new 30, 3) := by decide +kernel
theorem i_9_14 : gI 9 14 = some (.dup, 1) := by decide +kernel
theorem i_9_15 : gI 9 15 = some (.ldc 62, 2) := by decide +kernel
theorem i_9_17 : gI 9 17 = some (.invokespecial 34, 3) := by decide +kernel
theorem i_9_20 : gI 9 20 = some (.athrow, 1) := by decide +kernel
theorem i_9_21 : gI 9 21 = some (.iload_n 2, 1) := by decide +kernel
theorem i_9_22 : gI 9 22 = some (.ifCond .lt 9, 3) := by decide +kernel
theorem i_9_25 : gI 9 25 = some (.iload_n 2, 1) := by decide +kernel
theorem i_9_26 : gI 9 26 = some (.bipush 60, 2) := by decide +kernel
theorem i_9_28 : gI 9 28 = some (.if_icmp .le 13, 3) := by decide +kernel
theorem i_9_31 : gI 9 31 = some (.new 30, 3) := by decide +kernel
theorem i_9_34 : gI 9 34 = some (.dup, 1) := by decide +kernel
theorem i_9_35 : gI 9 35 = some (.ldc 64, 2) := by decide +kernel
theorem i_9_37 : gI 9 37 = some (.invokespecial 34, 3) := by decide +kernel
theorem i_9_40 : gI 9 40 = some (.athrow, 1) := by decide +kernel
theorem i_9_41 : gI 9 41 = some (.iload_n 3, 1) := by decide +kernel
theorem i_9_42 : gI 9 42 = some (.ifCond .lt 8, 3) := by decide +kernel
theorem i_9_45 : gI 9 45 = some (.iload_n 3, 1) := by decide +kernel
theorem i_9_46 : gI 9 46 = some (.iconst 2, 1) := by decide +kernel
theorem i_9_47 : gI 9 47 = some (.if_icmp .le 13, 3) := by decide +kernel
theorem i_9_50 : gI 9 50 = some (.new 30, 3) := by decide +kernel
theorem i_9_53 : gI 9 53 = some (.dup, 1) := by decide +kernel
theorem i_9_54 : gI 9 54 = some (.ldc 66, 2) := by decide +kernel
theorem i_9_56 : gI 9 56 = some (.invokespecial 34, 3) := by decide +kernel
theorem i_9_59 : gI 9 59 = some (.athrow, 1) := by decide +kernel
theorem i_9_60 : gI 9 60 = some (.aload_n 0, 1) := by decide +kernel
theorem i_9_61 : gI 9 61 = some (.getfield 68, 3) := by decide +kernel
theorem f_9_68 : gFld 9 68 = some (5, 3, 293, none, "FlyTower") := by decide +kernel
theorem i_9_64 : gI 9 64 = some (.bipush 10, 2) := by decide +kernel
theorem i_9_66 : gI 9 66 = some (.if_icmp .lt 13, 3) := by decide +kernel
theorem i_9_69 : gI 9 69 = some (.new 41, 3) := by decide +kernel
theorem i_9_72 : gI 9 72 = some (.dup, 1) := by decide +kernel
theorem i_9_73 : gI 9 73 = some (.ldc 71, 2) := by decide +kernel
theorem i_9_75 : gI 9 75 = some (.invokespecial 45, 3) := by decide +kernel
theorem i_9_78 : gI 9 78 = some (.athrow, 1) := by decide +kernel
theorem i_9_79 : gI 9 79 = some (.aload_n 0, 1) := by decide +kernel
theorem i_9_80 : gI 9 80 = some (.getfield 21, 3) := by decide +kernel
theorem f_9_21 : gFld 9 21 = some (5, 2, 292, none, "FlyTower") := by decide +kernel
theorem i_9_83 : gI 9 83 = some (.aload_n 0, 1) := by decide +kernel
theorem i_9_84 : gI 9 84 = some (.getfield 68, 3) := by decide +kernel
theorem i_9_87 : gI 9 87 = some (.aaload, 1) := by decide +kernel
theorem i_9_88 : gI 9 88 = some (.astore 4, 2) := by decide +kernel
theorem i_9_90 : gI 9 90 = some (.aload 4, 2) := by decide +kernel
theorem i_9_92 : gI 9 92 = some (.iload_n 1, 1) := by decide +kernel
theorem i_9_93 : gI 9 93 = some (.putfield 73, 3) := by decide +kernel
theorem f_9_73 : gFld 9 73 = some (3, 0, 276, some "FlyTower", "FlyTower$Piece") := by decide +kernel
theorem i_9_96 : gI 9 96 = some (.aload 4, 2) := by decide +kernel
theorem i_9_98 : gI 9 98 = some (.iload_n 2, 1) := by decide +kernel
theorem i_9_99 : gI 9 99 = some (.putfield 76, 3) := by decide +kernel
theorem f_9_76 : gFld 9 76 = some (3, 1, 277, some "FlyTower", "FlyTower$Piece") := by decide +kernel
theorem i_9_102 : gI 9 102 = some (.aload 4, 2) := by decide +kernel
theorem i_9_104 : gI 9 104 = some (.iload_n 3, 1) := by decide +kernel
theorem i_9_105 : gI 9 105 = some (.putfield 79, 3) := by decide +kernel
theorem f_9_79 : gFld 9 79 = some (3, 2, 278, some "FlyTower", "FlyTower$Piece") := by decide +kernel
theorem i_9_108 : gI 9 108 = some (.aload_n 0, 1) := by decide +kernel
theorem i_9_109 : gI 9 109 = some (.dup, 1) := by decide +kernel
theorem i_9_110 : gI 9 110 = some (.getfield 68, 3) := by decide +kernel
theorem i_9_113 : gI 9 113 = some (.dup_x1, 1) := by decide +kernel
theorem i_9_114 : gI 9 114 = some (.iconst 1, 1) := by decide +kernel
theorem i_9_115 : gI 9 115 = some (.iadd, 1) := by decide +kernel
theorem i_9_116 : gI 9 116 = some (.putfield 68, 3) := by decide +kernel
theorem i_9_119 : gI 9 119 = some (.ireturn, 1) := by decide +kernel
theorem r_10 : gR 10 = some (.int) := by decide +kernel
theorem l_10 : gLo 10 = 2 := by decide +kernel
theorem th_10_11 : gThr 10 11 = some ("java/lang/IllegalArgumentException", 30, 82, 34, "a CUE is 0 to 5, or NONE", false) := by decide +kernel
theorem th_10_33 : gThr 10 33 = some ("java/lang/IllegalStateException", 41, 87, 45, "there are 6 CUES", false) := by decide +kernel
theorem i_10_0 : gI 10 0 = some (.iload_n 1, 1) := by decide +kernel
theorem i_10_1 : gI 10 1 = some (.iconst (-1), 1) := by decide +kernel
theorem i_10_2 : gI 10 2 = some (.if_icmp .lt 9, 3) := by decide +kernel
theorem i_10_5 : gI 10 5 = some (.iload_n 1, 1) := by decide +kernel
theorem i_10_6 : gI 10 6 = some (.bipush 6, 2) := by decide +kernel
theorem i_10_8 : gI 10 8 = some (.if_icmp .lt 13, 3) := by decide +kernel
theorem i_10_11 : gI 10 11 = some (.new 30, 3) := by decide +kernel
theorem i_10_14 : gI 10 14 = some (.dup, 1) := by decide +kernel
theorem i_10_15 : gI 10 15 = some (.ldc 82, 2) := by decide +kernel
theorem i_10_17 : gI 10 17 = some (.invokespecial 34, 3) := by decide +kernel
theorem i_10_20 : gI 10 20 = some (.athrow, 1) := by decide +kernel
theorem i_10_21 : gI 10 21 = some (.aload_n 0, 1) := by decide +kernel
theorem i_10_22 : gI 10 22 = some (.getfield 10, 3) := by decide +kernel
theorem f_10_10 : gFld 10 10 = some (5, 0, 290, none, "FlyTower") := by decide +kernel
theorem i_10_25 : gI 10 25 = some (.getfield 84, 3) := by decide +kernel
theorem f_10_84 : gFld 10 84 = some (4, 3, 204, some "FlyTower", "FlyTower$Rig") := by decide +kernel
theorem i_10_28 : gI 10 28 = some (.bipush 6, 2) := by decide +kernel
theorem i_10_30 : gI 10 30 = some (.if_icmp .lt 13, 3) := by decide +kernel
theorem i_10_33 : gI 10 33 = some (.new 41, 3) := by decide +kernel
theorem i_10_36 : gI 10 36 = some (.dup, 1) := by decide +kernel
theorem i_10_37 : gI 10 37 = some (.ldc 87, 2) := by decide +kernel
theorem i_10_39 : gI 10 39 = some (.invokespecial 45, 3) := by decide +kernel
theorem i_10_42 : gI 10 42 = some (.athrow, 1) := by decide +kernel
theorem i_10_43 : gI 10 43 = some (.aload_n 0, 1) := by decide +kernel
theorem i_10_44 : gI 10 44 = some (.getfield 10, 3) := by decide +kernel
theorem i_10_47 : gI 10 47 = some (.getfield 89, 3) := by decide +kernel
theorem f_10_89 : gFld 10 89 = some (4, 2, 202, some "FlyTower", "FlyTower$Rig") := by decide +kernel
theorem i_10_50 : gI 10 50 = some (.aload_n 0, 1) := by decide +kernel
theorem i_10_51 : gI 10 51 = some (.getfield 10, 3) := by decide +kernel
theorem i_10_54 : gI 10 54 = some (.getfield 84, 3) := by decide +kernel
theorem i_10_57 : gI 10 57 = some (.aaload, 1) := by decide +kernel
theorem i_10_58 : gI 10 58 = some (.iload_n 1, 1) := by decide +kernel
theorem i_10_59 : gI 10 59 = some (.putfield 93, 3) := by decide +kernel
theorem f_10_93 : gFld 10 93 = some (1, 2, 188, some "FlyTower", "FlyTower$Cue") := by decide +kernel
theorem i_10_62 : gI 10 62 = some (.aload_n 0, 1) := by decide +kernel
theorem i_10_63 : gI 10 63 = some (.getfield 10, 3) := by decide +kernel
theorem i_10_66 : gI 10 66 = some (.dup, 1) := by decide +kernel
theorem i_10_67 : gI 10 67 = some (.getfield 84, 3) := by decide +kernel
theorem i_10_70 : gI 10 70 = some (.dup_x1, 1) := by decide +kernel
theorem i_10_71 : gI 10 71 = some (.iconst 1, 1) := by decide +kernel
theorem i_10_72 : gI 10 72 = some (.iadd, 1) := by decide +kernel
theorem i_10_73 : gI 10 73 = some (.putfield 84, 3) := by decide +kernel
theorem i_10_76 : gI 10 76 = some (.ireturn, 1) := by decide +kernel
theorem r_11 : gR 11 = some (.object "FlyTower$Cue") := by decide +kernel
theorem l_11 : gLo 11 = 2 := by decide +kernel
theorem th_11_12 : gThr 11 12 = some ("java/lang/IndexOutOfBoundsException", 84, 91, 88, "no such CUE", false) := by decide +kernel
theorem i_11_0 : gI 11 0 = some (.iload_n 1, 1) := by decide +kernel
theorem i_11_1 : gI 11 1 = some (.ifCond .lt 11, 3) := by decide +kernel
theorem i_11_4 : gI 11 4 = some (.iload_n 1, 1) := by decide +kernel
theorem i_11_5 : gI 11 5 = some (.aload_n 0, 1) := by decide +kernel
theorem i_11_6 : gI 11 6 = some (.getfield 44, 3) := by decide +kernel
theorem f_11_44 : gFld 11 44 = some (4, 3, 203, none, "FlyTower$Rig") := by decide +kernel
theorem i_11_9 : gI 11 9 = some (.if_icmp .lt 13, 3) := by decide +kernel
theorem i_11_12 : gI 11 12 = some (.new 84, 3) := by decide +kernel
theorem i_11_15 : gI 11 15 = some (.dup, 1) := by decide +kernel
theorem i_11_16 : gI 11 16 = some (.ldc 91, 2) := by decide +kernel
theorem i_11_18 : gI 11 18 = some (.invokespecial 88, 3) := by decide +kernel
theorem i_11_21 : gI 11 21 = some (.athrow, 1) := by decide +kernel
theorem i_11_22 : gI 11 22 = some (.aload_n 0, 1) := by decide +kernel
theorem i_11_23 : gI 11 23 = some (.getfield 32, 3) := by decide +kernel
theorem f_11_32 : gFld 11 32 = some (4, 2, 201, none, "FlyTower$Rig") := by decide +kernel
theorem i_11_26 : gI 11 26 = some (.iload_n 1, 1) := by decide +kernel
theorem i_11_27 : gI 11 27 = some (.aaload, 1) := by decide +kernel
theorem i_11_28 : gI 11 28 = some (.areturn, 1) := by decide +kernel
theorem r_12 : gR 12 = some (.int) := by decide +kernel
theorem l_12 : gLo 12 = 3 := by decide +kernel
theorem i_12_0 : gI 12 0 = some (.iconst 0, 1) := by decide +kernel
theorem i_12_1 : gI 12 1 = some (.istore_n 1, 1) := by decide +kernel
theorem i_12_2 : gI 12 2 = some (.iconst 0, 1) := by decide +kernel
theorem i_12_3 : gI 12 3 = some (.istore_n 2, 1) := by decide +kernel
theorem i_12_4 : gI 12 4 = some (.iload_n 2, 1) := by decide +kernel
theorem i_12_5 : gI 12 5 = some (.aload_n 0, 1) := by decide +kernel
theorem i_12_6 : gI 12 6 = some (.getfield 22, 3) := by decide +kernel
theorem f_12_22 : gFld 12 22 = some (1, 1, 184, none, "FlyTower$Cue") := by decide +kernel
theorem i_12_9 : gI 12 9 = some (.if_icmp .ge 24, 3) := by decide +kernel
theorem i_12_12 : gI 12 12 = some (.aload_n 0, 1) := by decide +kernel
theorem i_12_13 : gI 12 13 = some (.getfield 17, 3) := by decide +kernel
theorem f_12_17 : gFld 12 17 = some (1, 0, 181, none, "FlyTower$Cue") := by decide +kernel
theorem i_12_16 : gI 12 16 = some (.iload_n 2, 1) := by decide +kernel
theorem i_12_17 : gI 12 17 = some (.aaload, 1) := by decide +kernel
theorem i_12_18 : gI 12 18 = some (.getfield 39, 3) := by decide +kernel
theorem f_12_39 : gFld 12 39 = some (2, 4, 161, some "FlyTower", "FlyTower$Move") := by decide +kernel
theorem i_12_21 : gI 12 21 = some (.ifCond .ne 6, 3) := by decide +kernel
theorem i_12_24 : gI 12 24 = some (.iinc 1 1, 3) := by decide +kernel
theorem i_12_27 : gI 12 27 = some (.iinc 2 1, 3) := by decide +kernel
theorem i_12_30 : gI 12 30 = some (.goto (-26), 3) := by decide +kernel
theorem i_12_33 : gI 12 33 = some (.iload_n 1, 1) := by decide +kernel
theorem i_12_34 : gI 12 34 = some (.ireturn, 1) := by decide +kernel
theorem r_13 : gR 13 = some (.int) := by decide +kernel
theorem l_13 : gLo 13 = 1 := by decide +kernel
theorem i_13_0 : gI 13 0 = some (.aload_n 0, 1) := by decide +kernel
theorem i_13_1 : gI 13 1 = some (.getfield 15, 3) := by decide +kernel
theorem f_13_15 : gFld 13 15 = some (4, 7, 210, none, "FlyTower$Rig") := by decide +kernel
theorem i_13_4 : gI 13 4 = some (.iconst (-1), 1) := by decide +kernel
theorem i_13_5 : gI 13 5 = some (.if_icmp .ne 7, 3) := by decide +kernel
theorem i_13_8 : gI 13 8 = some (.iconst 0, 1) := by decide +kernel
theorem i_13_9 : gI 13 9 = some (.goto 14, 3) := by decide +kernel
theorem i_13_12 : gI 13 12 = some (.aload_n 0, 1) := by decide +kernel
theorem i_13_13 : gI 13 13 = some (.aload_n 0, 1) := by decide +kernel
theorem i_13_14 : gI 13 14 = some (.getfield 15, 3) := by decide +kernel
theorem i_13_17 : gI 13 17 = some (.invokevirtual 96, 3) := by decide +kernel
theorem v_13_96 : gIv 13 96 = some (11, 1, 1, 4, 492, 485, 6, 0, none) := jv_eq (by decide +kernel)
theorem i_13_20 : gI 13 20 = some (.invokevirtual 103, 3) := by decide +kernel
theorem v_13_103 : gIv 13 103 = some (12, 0, 4, 1, 514, 516, 11, 0, some "FlyTower") := jv_eq (by decide +kernel)
theorem i_13_23 : gI 13 23 = some (.ireturn, 1) := by decide +kernel
theorem r_14 : gR 14 = some (.int) := by decide +kernel
theorem l_14 : gLo 14 = 3 := by decide +kernel
theorem i_14_0 : gI 14 0 = some (.iconst 0, 1) := by decide +kernel
theorem i_14_1 : gI 14 1 = some (.istore_n 1, 1) := by decide +kernel
theorem i_14_2 : gI 14 2 = some (.iconst 0, 1) := by decide +kernel
theorem i_14_3 : gI 14 3 = some (.istore_n 2, 1) := by decide +kernel
theorem i_14_4 : gI 14 4 = some (.iload_n 2, 1) := by decide +kernel
theorem i_14_5 : gI 14 5 = some (.aload_n 0, 1) := by decide +kernel
theorem i_14_6 : gI 14 6 = some (.getfield 37, 3) := by decide +kernel
theorem f_14_37 : gFld 14 37 = some (4, 1, 199, none, "FlyTower$Rig") := by decide +kernel
theorem i_14_9 : gI 14 9 = some (.if_icmp .ge 27, 3) := by decide +kernel
theorem i_14_12 : gI 14 12 = some (.aload_n 0, 1) := by decide +kernel
theorem i_14_13 : gI 14 13 = some (.getfield 23, 3) := by decide +kernel
theorem f_14_23 : gFld 14 23 = some (4, 0, 197, none, "FlyTower$Rig") := by decide +kernel
theorem i_14_16 : gI 14 16 = some (.iload_n 2, 1) := by decide +kernel
theorem i_14_17 : gI 14 17 = some (.aaload, 1) := by decide +kernel
theorem i_14_18 : gI 14 18 = some (.getfield 93, 3) := by decide +kernel
theorem f_14_93 : gFld 14 93 = some (0, 10, 100, some "FlyTower", "FlyTower$Bar") := by decide +kernel
theorem i_14_21 : gI 14 21 = some (.ifCond .eq 9, 3) := by decide +kernel
theorem i_14_24 : gI 14 24 = some (.iload_n 1, 1) := by decide +kernel
theorem i_14_25 : gI 14 25 = some (.iconst 1, 1) := by decide +kernel
theorem i_14_26 : gI 14 26 = some (.iload_n 2, 1) := by decide +kernel
theorem i_14_27 : gI 14 27 = some (.ishl, 1) := by decide +kernel
theorem i_14_28 : gI 14 28 = some (.ior, 1) := by decide +kernel
theorem i_14_29 : gI 14 29 = some (.istore_n 1, 1) := by decide +kernel
theorem i_14_30 : gI 14 30 = some (.iinc 2 1, 3) := by decide +kernel
theorem i_14_33 : gI 14 33 = some (.goto (-29), 3) := by decide +kernel
theorem i_14_36 : gI 14 36 = some (.iload_n 1, 1) := by decide +kernel
theorem i_14_37 : gI 14 37 = some (.ireturn, 1) := by decide +kernel
theorem r_15 : gR 15 = some (.int) := by decide +kernel
theorem l_15 : gLo 15 = 2 := by decide +kernel
theorem th_15_213 : gThr 15 213 = some ("java/lang/IllegalArgumentException", 30, 277, 34, "what is 0 to 15", true) := by decide +kernel
theorem i_15_0 : gI 15 0 = some (.iload_n 1, 1) := by decide +kernel
theorem i_15_1 : gI 15 1 = some (.tableswitch 212 0 15 #[79, 87, 95, 100, 108, 116, 124, 140, 148, 156, 164, 172, 180, 188, 196, 204], 79) := by decide +kernel
theorem i_15_80 : gI 15 80 = some (.aload_n 0, 1) := by decide +kernel
theorem i_15_81 : gI 15 81 = some (.getfield 10, 3) := by decide +kernel
theorem f_15_10 : gFld 15 10 = some (5, 0, 290, none, "FlyTower") := by decide +kernel
theorem i_15_84 : gI 15 84 = some (.getfield 212, 3) := by decide +kernel
theorem f_15_212 : gFld 15 212 = some (4, 6, 209, some "FlyTower", "FlyTower$Rig") := by decide +kernel
theorem i_15_87 : gI 15 87 = some (.ireturn, 1) := by decide +kernel
theorem i_15_88 : gI 15 88 = some (.aload_n 0, 1) := by decide +kernel
theorem i_15_89 : gI 15 89 = some (.getfield 10, 3) := by decide +kernel
theorem i_15_92 : gI 15 92 = some (.getfield 37, 3) := by decide +kernel
theorem f_15_37 : gFld 15 37 = some (4, 1, 200, some "FlyTower", "FlyTower$Rig") := by decide +kernel
theorem i_15_95 : gI 15 95 = some (.ireturn, 1) := by decide +kernel
theorem i_15_96 : gI 15 96 = some (.aload_n 0, 1) := by decide +kernel
theorem i_15_97 : gI 15 97 = some (.getfield 68, 3) := by decide +kernel
theorem f_15_68 : gFld 15 68 = some (5, 3, 293, none, "FlyTower") := by decide +kernel
theorem i_15_100 : gI 15 100 = some (.ireturn, 1) := by decide +kernel
theorem i_15_101 : gI 15 101 = some (.aload_n 0, 1) := by decide +kernel
theorem i_15_102 : gI 15 102 = some (.getfield 10, 3) := by decide +kernel
theorem i_15_105 : gI 15 105 = some (.getfield 84, 3) := by decide +kernel
theorem f_15_84 : gFld 15 84 = some (4, 3, 204, some "FlyTower", "FlyTower$Rig") := by decide +kernel
theorem i_15_108 : gI 15 108 = some (.ireturn, 1) := by decide +kernel
theorem i_15_109 : gI 15 109 = some (.aload_n 0, 1) := by decide +kernel
theorem i_15_110 : gI 15 110 = some (.getfield 10, 3) := by decide +kernel
theorem i_15_113 : gI 15 113 = some (.getfield 148, 3) := by decide +kernel
theorem f_15_148 : gFld 15 148 = some (4, 4, 206, some "FlyTower", "FlyTower$Rig") := by decide +kernel
theorem i_15_116 : gI 15 116 = some (.ireturn, 1) := by decide +kernel
theorem i_15_117 : gI 15 117 = some (.aload_n 0, 1) := by decide +kernel
theorem i_15_118 : gI 15 118 = some (.getfield 10, 3) := by decide +kernel
theorem i_15_121 : gI 15 121 = some (.getfield 112, 3) := by decide +kernel
theorem f_15_112 : gFld 15 112 = some (4, 7, 211, some "FlyTower", "FlyTower$Rig") := by decide +kernel
theorem i_15_124 : gI 15 124 = some (.ireturn, 1) := by decide +kernel
theorem i_15_125 : gI 15 125 = some (.aload_n 0, 1) := by decide +kernel
theorem i_15_126 : gI 15 126 = some (.getfield 10, 3) := by decide +kernel
theorem i_15_129 : gI 15 129 = some (.getfield 198, 3) := by decide +kernel
theorem f_15_198 : gFld 15 198 = some (4, 8, 213, some "FlyTower", "FlyTower$Rig") := by decide +kernel
theorem i_15_132 : gI 15 132 = some (.ifCond .eq 7, 3) := by decide +kernel
theorem i_15_135 : gI 15 135 = some (.iconst 1, 1) := by decide +kernel
theorem i_15_136 : gI 15 136 = some (.goto 4, 3) := by decide +kernel
theorem i_15_139 : gI 15 139 = some (.iconst 0, 1) := by decide +kernel
theorem i_15_140 : gI 15 140 = some (.ireturn, 1) := by decide +kernel
theorem i_15_141 : gI 15 141 = some (.aload_n 0, 1) := by decide +kernel
theorem i_15_142 : gI 15 142 = some (.getfield 10, 3) := by decide +kernel
theorem i_15_145 : gI 15 145 = some (.getfield 255, 3) := by decide +kernel
theorem f_15_255 : gFld 15 255 = some (4, 9, 215, some "FlyTower", "FlyTower$Rig") := by decide +kernel
theorem i_15_148 : gI 15 148 = some (.ireturn, 1) := by decide +kernel
theorem i_15_149 : gI 15 149 = some (.aload_n 0, 1) := by decide +kernel
theorem i_15_150 : gI 15 150 = some (.getfield 10, 3) := by decide +kernel
theorem i_15_153 : gI 15 153 = some (.invokevirtual 201, 3) := by decide +kernel
theorem v_15_201 : gIv 15 201 = some (13, 0, 4, 4, 510, 512, 10, 0, some "FlyTower") := jv_eq (by decide +kernel)
theorem i_15_156 : gI 15 156 = some (.ireturn, 1) := by decide +kernel
theorem i_15_157 : gI 15 157 = some (.aload_n 0, 1) := by decide +kernel
theorem i_15_158 : gI 15 158 = some (.getfield 10, 3) := by decide +kernel
theorem i_15_161 : gI 15 161 = some (.getfield 258, 3) := by decide +kernel
theorem f_15_258 : gFld 15 258 = some (4, 11, 219, some "FlyTower", "FlyTower$Rig") := by decide +kernel
theorem i_15_164 : gI 15 164 = some (.ireturn, 1) := by decide +kernel
theorem i_15_165 : gI 15 165 = some (.aload_n 0, 1) := by decide +kernel
theorem i_15_166 : gI 15 166 = some (.getfield 10, 3) := by decide +kernel
theorem i_15_169 : gI 15 169 = some (.getfield 261, 3) := by decide +kernel
theorem f_15_261 : gFld 15 261 = some (4, 12, 221, some "FlyTower", "FlyTower$Rig") := by decide +kernel
theorem i_15_172 : gI 15 172 = some (.ireturn, 1) := by decide +kernel
theorem i_15_173 : gI 15 173 = some (.aload_n 0, 1) := by decide +kernel
theorem i_15_174 : gI 15 174 = some (.getfield 10, 3) := by decide +kernel
theorem i_15_177 : gI 15 177 = some (.getfield 264, 3) := by decide +kernel
theorem f_15_264 : gFld 15 264 = some (4, 13, 223, some "FlyTower", "FlyTower$Rig") := by decide +kernel
theorem i_15_180 : gI 15 180 = some (.ireturn, 1) := by decide +kernel
theorem i_15_181 : gI 15 181 = some (.aload_n 0, 1) := by decide +kernel
theorem i_15_182 : gI 15 182 = some (.getfield 10, 3) := by decide +kernel
theorem i_15_185 : gI 15 185 = some (.getfield 267, 3) := by decide +kernel
theorem f_15_267 : gFld 15 267 = some (4, 14, 225, some "FlyTower", "FlyTower$Rig") := by decide +kernel
theorem i_15_188 : gI 15 188 = some (.ireturn, 1) := by decide +kernel
theorem i_15_189 : gI 15 189 = some (.aload_n 0, 1) := by decide +kernel
theorem i_15_190 : gI 15 190 = some (.getfield 10, 3) := by decide +kernel
theorem i_15_193 : gI 15 193 = some (.getfield 270, 3) := by decide +kernel
theorem f_15_270 : gFld 15 270 = some (4, 15, 227, some "FlyTower", "FlyTower$Rig") := by decide +kernel
theorem i_15_196 : gI 15 196 = some (.ireturn, 1) := by decide +kernel
theorem i_15_197 : gI 15 197 = some (.aload_n 0, 1) := by decide +kernel
theorem i_15_198 : gI 15 198 = some (.getfield 10, 3) := by decide +kernel
theorem i_15_201 : gI 15 201 = some (.getfield 273, 3) := by decide +kernel
theorem f_15_273 : gFld 15 273 = some (4, 16, 229, some "FlyTower", "FlyTower$Rig") := by decide +kernel
theorem i_15_204 : gI 15 204 = some (.ireturn, 1) := by decide +kernel
theorem i_15_205 : gI 15 205 = some (.aload_n 0, 1) := by decide +kernel
theorem i_15_206 : gI 15 206 = some (.getfield 10, 3) := by decide +kernel
theorem i_15_209 : gI 15 209 = some (.invokevirtual 274, 3) := by decide +kernel
theorem v_15_274 : gIv 15 274 = some (14, 0, 4, 4, 552, 554, 14, 0, some "FlyTower") := jv_eq (by decide +kernel)
theorem i_15_212 : gI 15 212 = some (.ireturn, 1) := by decide +kernel
theorem i_15_213 : gI 15 213 = some (.new 30, 3) := by decide +kernel
theorem i_15_216 : gI 15 216 = some (.dup, 1) := by decide +kernel
theorem i_15_217 : gI 15 217 = some (.ldc_w 277, 3) := by decide +kernel
theorem i_15_220 : gI 15 220 = some (.invokespecial 34, 3) := by decide +kernel
theorem i_15_223 : gI 15 223 = some (.athrow, 1) := by decide +kernel
theorem r_16 : gR 16 = some (.object "FlyTower$Bar") := by decide +kernel
theorem l_16 : gLo 16 = 2 := by decide +kernel
theorem th_16_12 : gThr 16 12 = some ("java/lang/IndexOutOfBoundsException", 84, 86, 88, "no such BAR", false) := by decide +kernel
theorem i_16_0 : gI 16 0 = some (.iload_n 1, 1) := by decide +kernel
theorem i_16_1 : gI 16 1 = some (.ifCond .lt 11, 3) := by decide +kernel
theorem i_16_4 : gI 16 4 = some (.iload_n 1, 1) := by decide +kernel
theorem i_16_5 : gI 16 5 = some (.aload_n 0, 1) := by decide +kernel
theorem i_16_6 : gI 16 6 = some (.getfield 37, 3) := by decide +kernel
theorem f_16_37 : gFld 16 37 = some (4, 1, 199, none, "FlyTower$Rig") := by decide +kernel
theorem i_16_9 : gI 16 9 = some (.if_icmp .lt 13, 3) := by decide +kernel
theorem i_16_12 : gI 16 12 = some (.new 84, 3) := by decide +kernel
theorem i_16_15 : gI 16 15 = some (.dup, 1) := by decide +kernel
theorem i_16_16 : gI 16 16 = some (.ldc 86, 2) := by decide +kernel
theorem i_16_18 : gI 16 18 = some (.invokespecial 88, 3) := by decide +kernel
theorem i_16_21 : gI 16 21 = some (.athrow, 1) := by decide +kernel
theorem i_16_22 : gI 16 22 = some (.aload_n 0, 1) := by decide +kernel
theorem i_16_23 : gI 16 23 = some (.getfield 23, 3) := by decide +kernel
theorem f_16_23 : gFld 16 23 = some (4, 0, 197, none, "FlyTower$Rig") := by decide +kernel
theorem i_16_26 : gI 16 26 = some (.iload_n 1, 1) := by decide +kernel
theorem i_16_27 : gI 16 27 = some (.aaload, 1) := by decide +kernel
theorem i_16_28 : gI 16 28 = some (.areturn, 1) := by decide +kernel
theorem r_17 : gR 17 = some (.int) := by decide +kernel
theorem l_17 : gLo 17 = 1 := by decide +kernel
theorem i_17_0 : gI 17 0 = some (.aload_n 0, 1) := by decide +kernel
theorem i_17_1 : gI 17 1 = some (.getfield 17, 3) := by decide +kernel
theorem f_17_17 : gFld 17 17 = some (0, 1, 77, none, "FlyTower$Bar") := by decide +kernel
theorem i_17_4 : gI 17 4 = some (.ifCond .eq 7, 3) := by decide +kernel
theorem i_17_7 : gI 17 7 = some (.iconst 0, 1) := by decide +kernel
theorem i_17_8 : gI 17 8 = some (.goto 12, 3) := by decide +kernel
theorem i_17_11 : gI 17 11 = some (.aload_n 0, 1) := by decide +kernel
theorem i_17_12 : gI 17 12 = some (.getfield 29, 3) := by decide +kernel
theorem f_17_29 : gFld 17 29 = some (0, 5, 87, none, "FlyTower$Bar") := by decide +kernel
theorem i_17_15 : gI 17 15 = some (.aload_n 0, 1) := by decide +kernel
theorem i_17_16 : gI 17 16 = some (.getfield 26, 3) := by decide +kernel
theorem f_17_26 : gFld 17 26 = some (0, 4, 85, none, "FlyTower$Bar") := by decide +kernel
theorem i_17_19 : gI 17 19 = some (.isub, 1) := by decide +kernel
theorem i_17_20 : gI 17 20 = some (.ireturn, 1) := by decide +kernel
theorem r_18 : gR 18 = some (.int) := by decide +kernel
theorem l_18 : gLo 18 = 4 := by decide +kernel
theorem th_18_164 : gThr 18 164 = some ("java/lang/IllegalArgumentException", 30, 235, 34, "what is 0 to 11", false) := by decide +kernel
theorem i_18_0 : gI 18 0 = some (.aload_n 0, 1) := by decide +kernel
theorem i_18_1 : gI 18 1 = some (.getfield 10, 3) := by decide +kernel
theorem f_18_10 : gFld 18 10 = some (5, 0, 290, none, "FlyTower") := by decide +kernel
theorem i_18_4 : gI 18 4 = some (.iload_n 1, 1) := by decide +kernel
theorem i_18_5 : gI 18 5 = some (.invokevirtual 102, 3) := by decide +kernel
theorem v_18_102 : gIv 18 102 = some (16, 1, 4, 4, 418, 420, 1, 0, some "FlyTower") := jv_eq (by decide +kernel)
theorem i_18_8 : gI 18 8 = some (.astore_n 3, 1) := by decide +kernel
theorem i_18_9 : gI 18 9 = some (.iload_n 2, 1) := by decide +kernel
theorem i_18_10 : gI 18 10 = some (.tableswitch 154 0 11 #[62, 75, 80, 85, 90, 95, 100, 105, 110, 123, 136, 149], 62) := by decide +kernel
theorem i_18_72 : gI 18 72 = some (.aload_n 3, 1) := by decide +kernel
theorem i_18_73 : gI 18 73 = some (.getfield 50, 3) := by decide +kernel
theorem f_18_50 : gFld 18 50 = some (0, 1, 78, some "FlyTower", "FlyTower$Bar") := by decide +kernel
theorem i_18_76 : gI 18 76 = some (.ifCond .eq 7, 3) := by decide +kernel
theorem i_18_79 : gI 18 79 = some (.iconst 1, 1) := by decide +kernel
theorem i_18_80 : gI 18 80 = some (.goto 4, 3) := by decide +kernel
theorem i_18_83 : gI 18 83 = some (.iconst 0, 1) := by decide +kernel
theorem i_18_84 : gI 18 84 = some (.ireturn, 1) := by decide +kernel
theorem i_18_85 : gI 18 85 = some (.aload_n 3, 1) := by decide +kernel
theorem i_18_86 : gI 18 86 = some (.getfield 56, 3) := by decide +kernel
theorem f_18_56 : gFld 18 56 = some (0, 2, 81, some "FlyTower", "FlyTower$Bar") := by decide +kernel
theorem i_18_89 : gI 18 89 = some (.ireturn, 1) := by decide +kernel
theorem i_18_90 : gI 18 90 = some (.aload_n 3, 1) := by decide +kernel
theorem i_18_91 : gI 18 91 = some (.getfield 223, 3) := by decide +kernel
theorem f_18_223 : gFld 18 223 = some (0, 3, 84, some "FlyTower", "FlyTower$Bar") := by decide +kernel
theorem i_18_94 : gI 18 94 = some (.ireturn, 1) := by decide +kernel
theorem i_18_95 : gI 18 95 = some (.aload_n 3, 1) := by decide +kernel
theorem i_18_96 : gI 18 96 = some (.getfield 182, 3) := by decide +kernel
theorem f_18_182 : gFld 18 182 = some (0, 4, 86, some "FlyTower", "FlyTower$Bar") := by decide +kernel
theorem i_18_99 : gI 18 99 = some (.ireturn, 1) := by decide +kernel
theorem i_18_100 : gI 18 100 = some (.aload_n 3, 1) := by decide +kernel
theorem i_18_101 : gI 18 101 = some (.getfield 168, 3) := by decide +kernel
theorem f_18_168 : gFld 18 168 = some (0, 5, 88, some "FlyTower", "FlyTower$Bar") := by decide +kernel
theorem i_18_104 : gI 18 104 = some (.ireturn, 1) := by decide +kernel
theorem i_18_105 : gI 18 105 = some (.aload_n 3, 1) := by decide +kernel
theorem i_18_106 : gI 18 106 = some (.getfield 226, 3) := by decide +kernel
theorem f_18_226 : gFld 18 226 = some (0, 6, 90, some "FlyTower", "FlyTower$Bar") := by decide +kernel
theorem i_18_109 : gI 18 109 = some (.ireturn, 1) := by decide +kernel
theorem i_18_110 : gI 18 110 = some (.aload_n 3, 1) := by decide +kernel
theorem i_18_111 : gI 18 111 = some (.getfield 229, 3) := by decide +kernel
theorem f_18_229 : gFld 18 229 = some (0, 7, 92, some "FlyTower", "FlyTower$Bar") := by decide +kernel
theorem i_18_114 : gI 18 114 = some (.ireturn, 1) := by decide +kernel
theorem i_18_115 : gI 18 115 = some (.aload_n 3, 1) := by decide +kernel
theorem i_18_116 : gI 18 116 = some (.invokevirtual 185, 3) := by decide +kernel
theorem v_18_185 : gIv 18 185 = some (17, 0, 4, 0, 475, 477, 5, 0, some "FlyTower") := jv_eq (by decide +kernel)
theorem i_18_119 : gI 18 119 = some (.ireturn, 1) := by decide +kernel
theorem i_18_120 : gI 18 120 = some (.aload_n 3, 1) := by decide +kernel
theorem i_18_121 : gI 18 121 = some (.getfield 151, 3) := by decide +kernel
theorem f_18_151 : gFld 18 151 = some (0, 8, 94, some "FlyTower", "FlyTower$Bar") := by decide +kernel
theorem i_18_124 : gI 18 124 = some (.ifCond .eq 7, 3) := by decide +kernel
theorem i_18_127 : gI 18 127 = some (.iconst 1, 1) := by decide +kernel
theorem i_18_128 : gI 18 128 = some (.goto 4, 3) := by decide +kernel
theorem i_18_131 : gI 18 131 = some (.iconst 0, 1) := by decide +kernel
theorem i_18_132 : gI 18 132 = some (.ireturn, 1) := by decide +kernel
theorem i_18_133 : gI 18 133 = some (.aload_n 3, 1) := by decide +kernel
theorem i_18_134 : gI 18 134 = some (.getfield 154, 3) := by decide +kernel
theorem f_18_154 : gFld 18 154 = some (0, 9, 97, some "FlyTower", "FlyTower$Bar") := by decide +kernel
theorem i_18_137 : gI 18 137 = some (.ifCond .eq 7, 3) := by decide +kernel
theorem i_18_140 : gI 18 140 = some (.iconst 1, 1) := by decide +kernel
theorem i_18_141 : gI 18 141 = some (.goto 4, 3) := by decide +kernel
theorem i_18_144 : gI 18 144 = some (.iconst 0, 1) := by decide +kernel
theorem i_18_145 : gI 18 145 = some (.ireturn, 1) := by decide +kernel
theorem i_18_146 : gI 18 146 = some (.aload_n 3, 1) := by decide +kernel
theorem i_18_147 : gI 18 147 = some (.getfield 207, 3) := by decide +kernel
theorem f_18_207 : gFld 18 207 = some (0, 10, 101, some "FlyTower", "FlyTower$Bar") := by decide +kernel
theorem i_18_150 : gI 18 150 = some (.ifCond .eq 7, 3) := by decide +kernel
theorem i_18_153 : gI 18 153 = some (.iconst 1, 1) := by decide +kernel
theorem i_18_154 : gI 18 154 = some (.goto 4, 3) := by decide +kernel
theorem i_18_157 : gI 18 157 = some (.iconst 0, 1) := by decide +kernel
theorem i_18_158 : gI 18 158 = some (.ireturn, 1) := by decide +kernel
theorem i_18_159 : gI 18 159 = some (.aload_n 3, 1) := by decide +kernel
theorem i_18_160 : gI 18 160 = some (.getfield 232, 3) := by decide +kernel
theorem f_18_232 : gFld 18 232 = some (0, 11, 103, some "FlyTower", "FlyTower$Bar") := by decide +kernel
theorem i_18_163 : gI 18 163 = some (.ireturn, 1) := by decide +kernel
theorem i_18_164 : gI 18 164 = some (.new 30, 3) := by decide +kernel
theorem i_18_167 : gI 18 167 = some (.dup, 1) := by decide +kernel
theorem i_18_168 : gI 18 168 = some (.ldc 235, 2) := by decide +kernel
theorem i_18_170 : gI 18 170 = some (.invokespecial 34, 3) := by decide +kernel
theorem i_18_173 : gI 18 173 = some (.athrow, 1) := by decide +kernel
theorem r_19 : gR 19 = some (.object "FlyTower$Piece") := by decide +kernel
theorem l_19 : gLo 19 = 2 := by decide +kernel
theorem th_19_12 : gThr 19 12 = some ("java/lang/IndexOutOfBoundsException", 329, 331, 333, "no such PIECE", true) := by decide +kernel
theorem i_19_0 : gI 19 0 = some (.iload_n 1, 1) := by decide +kernel
theorem i_19_1 : gI 19 1 = some (.ifCond .lt 11, 3) := by decide +kernel
theorem i_19_4 : gI 19 4 = some (.iload_n 1, 1) := by decide +kernel
theorem i_19_5 : gI 19 5 = some (.aload_n 0, 1) := by decide +kernel
theorem i_19_6 : gI 19 6 = some (.getfield 68, 3) := by decide +kernel
theorem f_19_68 : gFld 19 68 = some (5, 3, 293, none, "FlyTower") := by decide +kernel
theorem i_19_9 : gI 19 9 = some (.if_icmp .lt 14, 3) := by decide +kernel
theorem i_19_12 : gI 19 12 = some (.new 329, 3) := by decide +kernel
theorem i_19_15 : gI 19 15 = some (.dup, 1) := by decide +kernel
theorem i_19_16 : gI 19 16 = some (.ldc_w 331, 3) := by decide +kernel
theorem i_19_19 : gI 19 19 = some (.invokespecial 333, 3) := by decide +kernel
theorem i_19_22 : gI 19 22 = some (.athrow, 1) := by decide +kernel
theorem i_19_23 : gI 19 23 = some (.aload_n 0, 1) := by decide +kernel
theorem i_19_24 : gI 19 24 = some (.getfield 21, 3) := by decide +kernel
theorem f_19_21 : gFld 19 21 = some (5, 2, 292, none, "FlyTower") := by decide +kernel
theorem i_19_27 : gI 19 27 = some (.iload_n 1, 1) := by decide +kernel
theorem i_19_28 : gI 19 28 = some (.aaload, 1) := by decide +kernel
theorem i_19_29 : gI 19 29 = some (.areturn, 1) := by decide +kernel
theorem r_20 : gR 20 = some (.int) := by decide +kernel
theorem l_20 : gLo 20 = 4 := by decide +kernel
theorem th_20_56 : gThr 20 56 = some ("java/lang/IllegalArgumentException", 30, 237, 34, "what is 0 to 3", false) := by decide +kernel
theorem i_20_0 : gI 20 0 = some (.aload_n 0, 1) := by decide +kernel
theorem i_20_1 : gI 20 1 = some (.iload_n 1, 1) := by decide +kernel
theorem i_20_2 : gI 20 2 = some (.invokevirtual 157, 3) := by decide +kernel
theorem v_20_157 : gIv 20 157 = some (19, 1, 1, 5, 442, 444, 2, 0, none) := jv_eq (by decide +kernel)
theorem i_20_5 : gI 20 5 = some (.astore_n 3, 1) := by decide +kernel
theorem i_20_6 : gI 20 6 = some (.iload_n 2, 1) := by decide +kernel
theorem i_20_7 : gI 20 7 = some (.tableswitch 49 0 3 #[29, 34, 39, 44], 29) := by decide +kernel
theorem i_20_36 : gI 20 36 = some (.aload_n 3, 1) := by decide +kernel
theorem i_20_37 : gI 20 37 = some (.getfield 73, 3) := by decide +kernel
theorem f_20_73 : gFld 20 73 = some (3, 0, 276, some "FlyTower", "FlyTower$Piece") := by decide +kernel
theorem i_20_40 : gI 20 40 = some (.ireturn, 1) := by decide +kernel
theorem i_20_41 : gI 20 41 = some (.aload_n 3, 1) := by decide +kernel
theorem i_20_42 : gI 20 42 = some (.getfield 76, 3) := by decide +kernel
theorem f_20_76 : gFld 20 76 = some (3, 1, 277, some "FlyTower", "FlyTower$Piece") := by decide +kernel
theorem i_20_45 : gI 20 45 = some (.ireturn, 1) := by decide +kernel
theorem i_20_46 : gI 20 46 = some (.aload_n 3, 1) := by decide +kernel
theorem i_20_47 : gI 20 47 = some (.getfield 79, 3) := by decide +kernel
theorem f_20_79 : gFld 20 79 = some (3, 2, 278, some "FlyTower", "FlyTower$Piece") := by decide +kernel
theorem i_20_50 : gI 20 50 = some (.ireturn, 1) := by decide +kernel
theorem i_20_51 : gI 20 51 = some (.aload_n 3, 1) := by decide +kernel
theorem i_20_52 : gI 20 52 = some (.getfield 161, 3) := by decide +kernel
theorem f_20_161 : gFld 20 161 = some (3, 3, 280, some "FlyTower", "FlyTower$Piece") := by decide +kernel
theorem i_20_55 : gI 20 55 = some (.ireturn, 1) := by decide +kernel
theorem i_20_56 : gI 20 56 = some (.new 30, 3) := by decide +kernel
theorem i_20_59 : gI 20 59 = some (.dup, 1) := by decide +kernel
theorem i_20_60 : gI 20 60 = some (.ldc 237, 2) := by decide +kernel
theorem i_20_62 : gI 20 62 = some (.invokespecial 34, 3) := by decide +kernel
theorem i_20_65 : gI 20 65 = some (.athrow, 1) := by decide +kernel
theorem r_21 : gR 21 = none := by decide +kernel
theorem l_21 : gLo 21 = 2 := by decide +kernel
theorem th_21_11 : gThr 21 11 = some ("java/lang/IllegalStateException", 41, 189, 45, "a CUE RUNS", false) := by decide +kernel
theorem th_21_28 : gThr 21 28 = some ("java/lang/IllegalStateException", 41, 336, 45, "HEIGHT is above 0", true) := by decide +kernel
theorem i_21_0 : gI 21 0 = some (.aload_n 0, 1) := by decide +kernel
theorem i_21_1 : gI 21 1 = some (.getfield 10, 3) := by decide +kernel
theorem f_21_10 : gFld 21 10 = some (5, 0, 290, none, "FlyTower") := by decide +kernel
theorem i_21_4 : gI 21 4 = some (.getfield 112, 3) := by decide +kernel
theorem f_21_112 : gFld 21 112 = some (4, 7, 211, some "FlyTower", "FlyTower$Rig") := by decide +kernel
theorem i_21_7 : gI 21 7 = some (.iconst (-1), 1) := by decide +kernel
theorem i_21_8 : gI 21 8 = some (.if_icmp .eq 13, 3) := by decide +kernel
theorem i_21_11 : gI 21 11 = some (.new 41, 3) := by decide +kernel
theorem i_21_14 : gI 21 14 = some (.dup, 1) := by decide +kernel
theorem i_21_15 : gI 21 15 = some (.ldc 189, 2) := by decide +kernel
theorem i_21_17 : gI 21 17 = some (.invokespecial 45, 3) := by decide +kernel
theorem i_21_20 : gI 21 20 = some (.athrow, 1) := by decide +kernel
theorem i_21_21 : gI 21 21 = some (.aload_n 1, 1) := by decide +kernel
theorem i_21_22 : gI 21 22 = some (.getfield 223, 3) := by decide +kernel
theorem f_21_223 : gFld 21 223 = some (0, 3, 84, some "FlyTower", "FlyTower$Bar") := by decide +kernel
theorem i_21_25 : gI 21 25 = some (.ifCond .le 14, 3) := by decide +kernel
theorem i_21_28 : gI 21 28 = some (.new 41, 3) := by decide +kernel
theorem i_21_31 : gI 21 31 = some (.dup, 1) := by decide +kernel
theorem i_21_32 : gI 21 32 = some (.ldc_w 336, 3) := by decide +kernel
theorem i_21_35 : gI 21 35 = some (.invokespecial 45, 3) := by decide +kernel
theorem i_21_38 : gI 21 38 = some (.athrow, 1) := by decide +kernel
theorem i_21_39 : gI 21 39 = some (.return_, 1) := by decide +kernel
theorem r_22 : gR 22 = none := by decide +kernel
theorem l_22 : gLo 22 = 4 := by decide +kernel
theorem i_22_0 : gI 22 0 = some (.aload_n 1, 1) := by decide +kernel
theorem i_22_1 : gI 22 1 = some (.iconst 0, 1) := by decide +kernel
theorem i_22_2 : gI 22 2 = some (.putfield 168, 3) := by decide +kernel
theorem f_22_168 : gFld 22 168 = some (0, 5, 88, some "FlyTower", "FlyTower$Bar") := by decide +kernel
theorem i_22_5 : gI 22 5 = some (.aload_n 1, 1) := by decide +kernel
theorem i_22_6 : gI 22 6 = some (.iconst 0, 1) := by decide +kernel
theorem i_22_7 : gI 22 7 = some (.putfield 226, 3) := by decide +kernel
theorem f_22_226 : gFld 22 226 = some (0, 6, 90, some "FlyTower", "FlyTower$Bar") := by decide +kernel
theorem i_22_10 : gI 22 10 = some (.aload_n 1, 1) := by decide +kernel
theorem i_22_11 : gI 22 11 = some (.iconst 0, 1) := by decide +kernel
theorem i_22_12 : gI 22 12 = some (.putfield 229, 3) := by decide +kernel
theorem f_22_229 : gFld 22 229 = some (0, 7, 92, some "FlyTower", "FlyTower$Bar") := by decide +kernel
theorem i_22_15 : gI 22 15 = some (.iconst 0, 1) := by decide +kernel
theorem i_22_16 : gI 22 16 = some (.istore_n 2, 1) := by decide +kernel
theorem i_22_17 : gI 22 17 = some (.iload_n 2, 1) := by decide +kernel
theorem i_22_18 : gI 22 18 = some (.aload_n 0, 1) := by decide +kernel
theorem i_22_19 : gI 22 19 = some (.getfield 68, 3) := by decide +kernel
theorem f_22_68 : gFld 22 68 = some (5, 3, 293, none, "FlyTower") := by decide +kernel
theorem i_22_22 : gI 22 22 = some (.if_icmp .ge 70, 3) := by decide +kernel
theorem i_22_25 : gI 22 25 = some (.aload_n 0, 1) := by decide +kernel
theorem i_22_26 : gI 22 26 = some (.getfield 21, 3) := by decide +kernel
theorem f_22_21 : gFld 22 21 = some (5, 2, 292, none, "FlyTower") := by decide +kernel
theorem i_22_29 : gI 22 29 = some (.iload_n 2, 1) := by decide +kernel
theorem i_22_30 : gI 22 30 = some (.aaload, 1) := by decide +kernel
theorem i_22_31 : gI 22 31 = some (.astore_n 3, 1) := by decide +kernel
theorem i_22_32 : gI 22 32 = some (.aload_n 3, 1) := by decide +kernel
theorem i_22_33 : gI 22 33 = some (.getfield 161, 3) := by decide +kernel
theorem f_22_161 : gFld 22 161 = some (3, 3, 280, some "FlyTower", "FlyTower$Piece") := by decide +kernel
theorem i_22_36 : gI 22 36 = some (.aload_n 1, 1) := by decide +kernel
theorem i_22_37 : gI 22 37 = some (.getfield 59, 3) := by decide +kernel
theorem f_22_59 : gFld 22 59 = some (0, 0, 75, some "FlyTower", "FlyTower$Bar") := by decide +kernel
theorem i_22_40 : gI 22 40 = some (.if_icmp .ne 46, 3) := by decide +kernel
theorem i_22_43 : gI 22 43 = some (.aload_n 1, 1) := by decide +kernel
theorem i_22_44 : gI 22 44 = some (.dup, 1) := by decide +kernel
theorem i_22_45 : gI 22 45 = some (.getfield 168, 3) := by decide +kernel
theorem i_22_48 : gI 22 48 = some (.aload_n 3, 1) := by decide +kernel
theorem i_22_49 : gI 22 49 = some (.getfield 73, 3) := by decide +kernel
theorem f_22_73 : gFld 22 73 = some (3, 0, 276, some "FlyTower", "FlyTower$Piece") := by decide +kernel
theorem i_22_52 : gI 22 52 = some (.iadd, 1) := by decide +kernel
theorem i_22_53 : gI 22 53 = some (.putfield 168, 3) := by decide +kernel
theorem i_22_56 : gI 22 56 = some (.aload_n 1, 1) := by decide +kernel
theorem i_22_57 : gI 22 57 = some (.aload_n 1, 1) := by decide +kernel
theorem i_22_58 : gI 22 58 = some (.getfield 226, 3) := by decide +kernel
theorem i_22_61 : gI 22 61 = some (.aload_n 3, 1) := by decide +kernel
theorem i_22_62 : gI 22 62 = some (.getfield 76, 3) := by decide +kernel
theorem f_22_76 : gFld 22 76 = some (3, 1, 277, some "FlyTower", "FlyTower$Piece") := by decide +kernel
theorem i_22_65 : gI 22 65 = some (.invokestatic 338, 3) := by decide +kernel
theorem v_22_338 : gIv 22 338 = some (0, 2, 101, 0, 461, 462, 463, 49, none) := jv_eq (by decide +kernel)
theorem i_22_68 : gI 22 68 = some (.putfield 226, 3) := by decide +kernel
theorem i_22_71 : gI 22 71 = some (.aload_n 1, 1) := by decide +kernel
theorem i_22_72 : gI 22 72 = some (.aload_n 1, 1) := by decide +kernel
theorem i_22_73 : gI 22 73 = some (.getfield 229, 3) := by decide +kernel
theorem i_22_76 : gI 22 76 = some (.aload_n 3, 1) := by decide +kernel
theorem i_22_77 : gI 22 77 = some (.getfield 79, 3) := by decide +kernel
theorem f_22_79 : gFld 22 79 = some (3, 2, 278, some "FlyTower", "FlyTower$Piece") := by decide +kernel
theorem i_22_80 : gI 22 80 = some (.invokestatic 338, 3) := by decide +kernel
theorem i_22_83 : gI 22 83 = some (.putfield 229, 3) := by decide +kernel
theorem i_22_86 : gI 22 86 = some (.iinc 2 1, 3) := by decide +kernel
theorem i_22_89 : gI 22 89 = some (.goto (-72), 3) := by decide +kernel
theorem i_22_92 : gI 22 92 = some (.return_, 1) := by decide +kernel
theorem r_23 : gR 23 = some (.int) := by decide +kernel
theorem l_23 : gLo 23 = 5 := by decide +kernel
theorem th_23_24 : gThr 23 24 = some ("java/lang/IllegalStateException", 41, 162, 45, "that PIECE is not in the STORE", false) := by decide +kernel
theorem th_23_58 : gThr 23 58 = some ("java/lang/IllegalStateException", 41, 171, 45, "LOAD would be above LIMIT", false) := by decide +kernel
theorem i_23_0 : gI 23 0 = some (.aload_n 0, 1) := by decide +kernel
theorem i_23_1 : gI 23 1 = some (.iload_n 1, 1) := by decide +kernel
theorem i_23_2 : gI 23 2 = some (.invokevirtual 157, 3) := by decide +kernel
theorem v_23_157 : gIv 23 157 = some (19, 1, 1, 5, 442, 444, 2, 0, none) := jv_eq (by decide +kernel)
theorem i_23_5 : gI 23 5 = some (.astore_n 3, 1) := by decide +kernel
theorem i_23_6 : gI 23 6 = some (.aload_n 0, 1) := by decide +kernel
theorem i_23_7 : gI 23 7 = some (.getfield 10, 3) := by decide +kernel
theorem f_23_10 : gFld 23 10 = some (5, 0, 290, none, "FlyTower") := by decide +kernel
theorem i_23_10 : gI 23 10 = some (.iload_n 2, 1) := by decide +kernel
theorem i_23_11 : gI 23 11 = some (.invokevirtual 102, 3) := by decide +kernel
theorem v_23_102 : gIv 23 102 = some (16, 1, 4, 4, 418, 420, 1, 0, some "FlyTower") := jv_eq (by decide +kernel)
theorem i_23_14 : gI 23 14 = some (.astore 4, 2) := by decide +kernel
theorem i_23_16 : gI 23 16 = some (.aload_n 3, 1) := by decide +kernel
theorem i_23_17 : gI 23 17 = some (.getfield 161, 3) := by decide +kernel
theorem f_23_161 : gFld 23 161 = some (3, 3, 280, some "FlyTower", "FlyTower$Piece") := by decide +kernel
theorem i_23_20 : gI 23 20 = some (.iconst (-1), 1) := by decide +kernel
theorem i_23_21 : gI 23 21 = some (.if_icmp .eq 13, 3) := by decide +kernel
theorem i_23_24 : gI 23 24 = some (.new 41, 3) := by decide +kernel
theorem i_23_27 : gI 23 27 = some (.dup, 1) := by decide +kernel
theorem i_23_28 : gI 23 28 = some (.ldc 162, 2) := by decide +kernel
theorem i_23_30 : gI 23 30 = some (.invokespecial 45, 3) := by decide +kernel
theorem i_23_33 : gI 23 33 = some (.athrow, 1) := by decide +kernel
theorem i_23_34 : gI 23 34 = some (.aload_n 0, 1) := by decide +kernel
theorem i_23_35 : gI 23 35 = some (.aload 4, 2) := by decide +kernel
theorem i_23_37 : gI 23 37 = some (.invokevirtual 164, 3) := by decide +kernel
theorem v_23_164 : gIv 23 164 = some (21, 1, 1, 5, 450, 452, 3, 0, none) := jv_eq (by decide +kernel)
theorem i_23_40 : gI 23 40 = some (.aload 4, 2) := by decide +kernel
theorem i_23_42 : gI 23 42 = some (.getfield 168, 3) := by decide +kernel
theorem f_23_168 : gFld 23 168 = some (0, 5, 88, some "FlyTower", "FlyTower$Bar") := by decide +kernel
theorem i_23_45 : gI 23 45 = some (.aload_n 3, 1) := by decide +kernel
theorem i_23_46 : gI 23 46 = some (.getfield 73, 3) := by decide +kernel
theorem f_23_73 : gFld 23 73 = some (3, 0, 276, some "FlyTower", "FlyTower$Piece") := by decide +kernel
theorem i_23_49 : gI 23 49 = some (.iadd, 1) := by decide +kernel
theorem i_23_50 : gI 23 50 = some (.aload 4, 2) := by decide +kernel
theorem i_23_52 : gI 23 52 = some (.getfield 56, 3) := by decide +kernel
theorem f_23_56 : gFld 23 56 = some (0, 2, 81, some "FlyTower", "FlyTower$Bar") := by decide +kernel
theorem i_23_55 : gI 23 55 = some (.if_icmp .le 13, 3) := by decide +kernel
theorem i_23_58 : gI 23 58 = some (.new 41, 3) := by decide +kernel
theorem i_23_61 : gI 23 61 = some (.dup, 1) := by decide +kernel
theorem i_23_62 : gI 23 62 = some (.ldc 171, 2) := by decide +kernel
theorem i_23_64 : gI 23 64 = some (.invokespecial 45, 3) := by decide +kernel
theorem i_23_67 : gI 23 67 = some (.athrow, 1) := by decide +kernel
theorem i_23_68 : gI 23 68 = some (.aload_n 3, 1) := by decide +kernel
theorem i_23_69 : gI 23 69 = some (.aload 4, 2) := by decide +kernel
theorem i_23_71 : gI 23 71 = some (.getfield 59, 3) := by decide +kernel
theorem f_23_59 : gFld 23 59 = some (0, 0, 75, some "FlyTower", "FlyTower$Bar") := by decide +kernel
theorem i_23_74 : gI 23 74 = some (.putfield 161, 3) := by decide +kernel
theorem i_23_77 : gI 23 77 = some (.aload_n 0, 1) := by decide +kernel
theorem i_23_78 : gI 23 78 = some (.aload 4, 2) := by decide +kernel
theorem i_23_80 : gI 23 80 = some (.invokevirtual 173, 3) := by decide +kernel
theorem v_23_173 : gIv 23 173 = some (22, 1, 1, 5, 457, 459, 4, 0, none) := jv_eq (by decide +kernel)
theorem i_23_83 : gI 23 83 = some (.aload 4, 2) := by decide +kernel
theorem i_23_85 : gI 23 85 = some (.getfield 168, 3) := by decide +kernel
theorem i_23_88 : gI 23 88 = some (.ireturn, 1) := by decide +kernel
theorem r_24 : gR 24 = some (.int) := by decide +kernel
theorem l_24 : gLo 24 = 4 := by decide +kernel
theorem th_24_14 : gThr 24 14 = some ("java/lang/IllegalStateException", 41, 176, 45, "that PIECE is in the STORE", false) := by decide +kernel
theorem i_24_0 : gI 24 0 = some (.aload_n 0, 1) := by decide +kernel
theorem i_24_1 : gI 24 1 = some (.iload_n 1, 1) := by decide +kernel
theorem i_24_2 : gI 24 2 = some (.invokevirtual 157, 3) := by decide +kernel
theorem v_24_157 : gIv 24 157 = some (19, 1, 1, 5, 442, 444, 2, 0, none) := jv_eq (by decide +kernel)
theorem i_24_5 : gI 24 5 = some (.astore_n 2, 1) := by decide +kernel
theorem i_24_6 : gI 24 6 = some (.aload_n 2, 1) := by decide +kernel
theorem i_24_7 : gI 24 7 = some (.getfield 161, 3) := by decide +kernel
theorem f_24_161 : gFld 24 161 = some (3, 3, 280, some "FlyTower", "FlyTower$Piece") := by decide +kernel
theorem i_24_10 : gI 24 10 = some (.iconst (-1), 1) := by decide +kernel
theorem i_24_11 : gI 24 11 = some (.if_icmp .ne 13, 3) := by decide +kernel
theorem i_24_14 : gI 24 14 = some (.new 41, 3) := by decide +kernel
theorem i_24_17 : gI 24 17 = some (.dup, 1) := by decide +kernel
theorem i_24_18 : gI 24 18 = some (.ldc 176, 2) := by decide +kernel
theorem i_24_20 : gI 24 20 = some (.invokespecial 45, 3) := by decide +kernel
theorem i_24_23 : gI 24 23 = some (.athrow, 1) := by decide +kernel
theorem i_24_24 : gI 24 24 = some (.aload_n 0, 1) := by decide +kernel
theorem i_24_25 : gI 24 25 = some (.getfield 10, 3) := by decide +kernel
theorem f_24_10 : gFld 24 10 = some (5, 0, 290, none, "FlyTower") := by decide +kernel
theorem i_24_28 : gI 24 28 = some (.aload_n 2, 1) := by decide +kernel
theorem i_24_29 : gI 24 29 = some (.getfield 161, 3) := by decide +kernel
theorem i_24_32 : gI 24 32 = some (.invokevirtual 102, 3) := by decide +kernel
theorem v_24_102 : gIv 24 102 = some (16, 1, 4, 4, 418, 420, 1, 0, some "FlyTower") := jv_eq (by decide +kernel)
theorem i_24_35 : gI 24 35 = some (.astore_n 3, 1) := by decide +kernel
theorem i_24_36 : gI 24 36 = some (.aload_n 0, 1) := by decide +kernel
theorem i_24_37 : gI 24 37 = some (.aload_n 3, 1) := by decide +kernel
theorem i_24_38 : gI 24 38 = some (.invokevirtual 164, 3) := by decide +kernel
theorem v_24_164 : gIv 24 164 = some (21, 1, 1, 5, 450, 452, 3, 0, none) := jv_eq (by decide +kernel)
theorem i_24_41 : gI 24 41 = some (.aload_n 2, 1) := by decide +kernel
theorem i_24_42 : gI 24 42 = some (.iconst (-1), 1) := by decide +kernel
theorem i_24_43 : gI 24 43 = some (.putfield 161, 3) := by decide +kernel
theorem i_24_46 : gI 24 46 = some (.aload_n 0, 1) := by decide +kernel
theorem i_24_47 : gI 24 47 = some (.aload_n 3, 1) := by decide +kernel
theorem i_24_48 : gI 24 48 = some (.invokevirtual 173, 3) := by decide +kernel
theorem v_24_173 : gIv 24 173 = some (22, 1, 1, 5, 457, 459, 4, 0, none) := jv_eq (by decide +kernel)
theorem i_24_51 : gI 24 51 = some (.aload_n 3, 1) := by decide +kernel
theorem i_24_52 : gI 24 52 = some (.getfield 59, 3) := by decide +kernel
theorem f_24_59 : gFld 24 59 = some (0, 0, 75, some "FlyTower", "FlyTower$Bar") := by decide +kernel
theorem i_24_55 : gI 24 55 = some (.ireturn, 1) := by decide +kernel
theorem r_25 : gR 25 = some (.int) := by decide +kernel
theorem l_25 : gLo 25 = 4 := by decide +kernel
theorem th_25_20 : gThr 25 20 = some ("java/lang/IllegalArgumentException", 30, 178, 34, "a COUNTER is 0 to 300", false) := by decide +kernel
theorem th_25_37 : gThr 25 37 = some ("java/lang/IllegalStateException", 41, 180, 45, "that BAR has a MOTOR", false) := by decide +kernel
theorem i_25_0 : gI 25 0 = some (.aload_n 0, 1) := by decide +kernel
theorem i_25_1 : gI 25 1 = some (.getfield 10, 3) := by decide +kernel
theorem f_25_10 : gFld 25 10 = some (5, 0, 290, none, "FlyTower") := by decide +kernel
theorem i_25_4 : gI 25 4 = some (.iload_n 1, 1) := by decide +kernel
theorem i_25_5 : gI 25 5 = some (.invokevirtual 102, 3) := by decide +kernel
theorem v_25_102 : gIv 25 102 = some (16, 1, 4, 4, 418, 420, 1, 0, some "FlyTower") := jv_eq (by decide +kernel)
theorem i_25_8 : gI 25 8 = some (.astore_n 3, 1) := by decide +kernel
theorem i_25_9 : gI 25 9 = some (.iload_n 2, 1) := by decide +kernel
theorem i_25_10 : gI 25 10 = some (.ifCond .lt 10, 3) := by decide +kernel
theorem i_25_13 : gI 25 13 = some (.iload_n 2, 1) := by decide +kernel
theorem i_25_14 : gI 25 14 = some (.sipush 300, 3) := by decide +kernel
theorem i_25_17 : gI 25 17 = some (.if_icmp .le 13, 3) := by decide +kernel
theorem i_25_20 : gI 25 20 = some (.new 30, 3) := by decide +kernel
theorem i_25_23 : gI 25 23 = some (.dup, 1) := by decide +kernel
theorem i_25_24 : gI 25 24 = some (.ldc 178, 2) := by decide +kernel
theorem i_25_26 : gI 25 26 = some (.invokespecial 34, 3) := by decide +kernel
theorem i_25_29 : gI 25 29 = some (.athrow, 1) := by decide +kernel
theorem i_25_30 : gI 25 30 = some (.aload_n 3, 1) := by decide +kernel
theorem i_25_31 : gI 25 31 = some (.getfield 50, 3) := by decide +kernel
theorem f_25_50 : gFld 25 50 = some (0, 1, 78, some "FlyTower", "FlyTower$Bar") := by decide +kernel
theorem i_25_34 : gI 25 34 = some (.ifCond .eq 13, 3) := by decide +kernel
theorem i_25_37 : gI 25 37 = some (.new 41, 3) := by decide +kernel
theorem i_25_40 : gI 25 40 = some (.dup, 1) := by decide +kernel
theorem i_25_41 : gI 25 41 = some (.ldc 180, 2) := by decide +kernel
theorem i_25_43 : gI 25 43 = some (.invokespecial 45, 3) := by decide +kernel
theorem i_25_46 : gI 25 46 = some (.athrow, 1) := by decide +kernel
theorem i_25_47 : gI 25 47 = some (.aload_n 0, 1) := by decide +kernel
theorem i_25_48 : gI 25 48 = some (.aload_n 3, 1) := by decide +kernel
theorem i_25_49 : gI 25 49 = some (.invokevirtual 164, 3) := by decide +kernel
theorem v_25_164 : gIv 25 164 = some (21, 1, 1, 5, 450, 452, 3, 0, none) := jv_eq (by decide +kernel)
theorem i_25_52 : gI 25 52 = some (.aload_n 3, 1) := by decide +kernel
theorem i_25_53 : gI 25 53 = some (.iload_n 2, 1) := by decide +kernel
theorem i_25_54 : gI 25 54 = some (.putfield 182, 3) := by decide +kernel
theorem f_25_182 : gFld 25 182 = some (0, 4, 86, some "FlyTower", "FlyTower$Bar") := by decide +kernel
theorem i_25_57 : gI 25 57 = some (.aload_n 3, 1) := by decide +kernel
theorem i_25_58 : gI 25 58 = some (.invokevirtual 185, 3) := by decide +kernel
theorem v_25_185 : gIv 25 185 = some (17, 0, 4, 0, 475, 477, 5, 0, some "FlyTower") := jv_eq (by decide +kernel)
theorem i_25_61 : gI 25 61 = some (.ireturn, 1) := by decide +kernel
theorem r_26 : gR 26 = some (.object "FlyTower$Move") := by decide +kernel
theorem l_26 : gLo 26 = 2 := by decide +kernel
theorem th_26_12 : gThr 26 12 = some ("java/lang/IndexOutOfBoundsException", 29, 31, 33, "no such MOVE", false) := by decide +kernel
theorem i_26_0 : gI 26 0 = some (.iload_n 1, 1) := by decide +kernel
theorem i_26_1 : gI 26 1 = some (.ifCond .lt 11, 3) := by decide +kernel
theorem i_26_4 : gI 26 4 = some (.iload_n 1, 1) := by decide +kernel
theorem i_26_5 : gI 26 5 = some (.aload_n 0, 1) := by decide +kernel
theorem i_26_6 : gI 26 6 = some (.getfield 22, 3) := by decide +kernel
theorem f_26_22 : gFld 26 22 = some (1, 1, 184, none, "FlyTower$Cue") := by decide +kernel
theorem i_26_9 : gI 26 9 = some (.if_icmp .lt 13, 3) := by decide +kernel
theorem i_26_12 : gI 26 12 = some (.new 29, 3) := by decide +kernel
theorem i_26_15 : gI 26 15 = some (.dup, 1) := by decide +kernel
theorem i_26_16 : gI 26 16 = some (.ldc 31, 2) := by decide +kernel
theorem i_26_18 : gI 26 18 = some (.invokespecial 33, 3) := by decide +kernel
theorem i_26_21 : gI 26 21 = some (.athrow, 1) := by decide +kernel
theorem i_26_22 : gI 26 22 = some (.aload_n 0, 1) := by decide +kernel
theorem i_26_23 : gI 26 23 = some (.getfield 17, 3) := by decide +kernel
theorem f_26_17 : gFld 26 17 = some (1, 0, 181, none, "FlyTower$Cue") := by decide +kernel
theorem i_26_26 : gI 26 26 = some (.iload_n 1, 1) := by decide +kernel
theorem i_26_27 : gI 26 27 = some (.aaload, 1) := by decide +kernel
theorem i_26_28 : gI 26 28 = some (.areturn, 1) := by decide +kernel
theorem r_27 : gR 27 = some (.int) := by decide +kernel
theorem l_27 : gLo 27 = 5 := by decide +kernel
theorem th_27_88 : gThr 27 88 = some ("java/lang/IllegalArgumentException", 30, 249, 34, "what is 0 to 5", false) := by decide +kernel
theorem i_27_0 : gI 27 0 = some (.aload_n 0, 1) := by decide +kernel
theorem i_27_1 : gI 27 1 = some (.getfield 10, 3) := by decide +kernel
theorem f_27_10 : gFld 27 10 = some (5, 0, 290, none, "FlyTower") := by decide +kernel
theorem i_27_4 : gI 27 4 = some (.iload_n 1, 1) := by decide +kernel
theorem i_27_5 : gI 27 5 = some (.invokevirtual 98, 3) := by decide +kernel
theorem v_27_98 : gIv 27 98 = some (11, 1, 4, 4, 483, 485, 6, 0, some "FlyTower") := jv_eq (by decide +kernel)
theorem i_27_8 : gI 27 8 = some (.iload_n 2, 1) := by decide +kernel
theorem i_27_9 : gI 27 9 = some (.invokevirtual 239, 3) := by decide +kernel
theorem v_27_239 : gIv 27 239 = some (26, 1, 4, 1, 540, 542, 13, 0, some "FlyTower") := jv_eq (by decide +kernel)
theorem i_27_12 : gI 27 12 = some (.astore 4, 2) := by decide +kernel
theorem i_27_14 : gI 27 14 = some (.iload_n 3, 1) := by decide +kernel
theorem i_27_15 : gI 27 15 = some (.tableswitch 73 0 5 #[37, 43, 49, 55, 61, 67], 37) := by decide +kernel
theorem i_27_52 : gI 27 52 = some (.aload 4, 2) := by decide +kernel
theorem i_27_54 : gI 27 54 = some (.getfield 132, 3) := by decide +kernel
theorem f_27_132 : gFld 27 132 = some (2, 0, 149, some "FlyTower", "FlyTower$Move") := by decide +kernel
theorem i_27_57 : gI 27 57 = some (.ireturn, 1) := by decide +kernel
theorem i_27_58 : gI 27 58 = some (.aload 4, 2) := by decide +kernel
theorem i_27_60 : gI 27 60 = some (.getfield 137, 3) := by decide +kernel
theorem f_27_137 : gFld 27 137 = some (2, 1, 152, some "FlyTower", "FlyTower$Move") := by decide +kernel
theorem i_27_63 : gI 27 63 = some (.ireturn, 1) := by decide +kernel
theorem i_27_64 : gI 27 64 = some (.aload 4, 2) := by decide +kernel
theorem i_27_66 : gI 27 66 = some (.getfield 140, 3) := by decide +kernel
theorem f_27_140 : gFld 27 140 = some (2, 2, 155, some "FlyTower", "FlyTower$Move") := by decide +kernel
theorem i_27_69 : gI 27 69 = some (.ireturn, 1) := by decide +kernel
theorem i_27_70 : gI 27 70 = some (.aload 4, 2) := by decide +kernel
theorem i_27_72 : gI 27 72 = some (.getfield 143, 3) := by decide +kernel
theorem f_27_143 : gFld 27 143 = some (2, 3, 158, some "FlyTower", "FlyTower$Move") := by decide +kernel
theorem i_27_75 : gI 27 75 = some (.ireturn, 1) := by decide +kernel
theorem i_27_76 : gI 27 76 = some (.aload 4, 2) := by decide +kernel
theorem i_27_78 : gI 27 78 = some (.getfield 243, 3) := by decide +kernel
theorem f_27_243 : gFld 27 243 = some (2, 4, 163, some "FlyTower", "FlyTower$Move") := by decide +kernel
theorem i_27_81 : gI 27 81 = some (.ireturn, 1) := by decide +kernel
theorem i_27_82 : gI 27 82 = some (.aload 4, 2) := by decide +kernel
theorem i_27_84 : gI 27 84 = some (.getfield 246, 3) := by decide +kernel
theorem f_27_246 : gFld 27 246 = some (2, 5, 167, some "FlyTower", "FlyTower$Move") := by decide +kernel
theorem i_27_87 : gI 27 87 = some (.ireturn, 1) := by decide +kernel
theorem i_27_88 : gI 27 88 = some (.new 30, 3) := by decide +kernel
theorem i_27_91 : gI 27 91 = some (.dup, 1) := by decide +kernel
theorem i_27_92 : gI 27 92 = some (.ldc 249, 2) := by decide +kernel
theorem i_27_94 : gI 27 94 = some (.invokespecial 34, 3) := by decide +kernel
theorem i_27_97 : gI 27 97 = some (.athrow, 1) := by decide +kernel
theorem r_28 : gR 28 = some (.int) := by decide +kernel
theorem l_28 : gLo 28 = 4 := by decide +kernel
theorem i_28_0 : gI 28 0 = some (.iconst 0, 1) := by decide +kernel
theorem i_28_1 : gI 28 1 = some (.istore_n 2, 1) := by decide +kernel
theorem i_28_2 : gI 28 2 = some (.iload_n 2, 1) := by decide +kernel
theorem i_28_3 : gI 28 3 = some (.bipush 6, 2) := by decide +kernel
theorem i_28_5 : gI 28 5 = some (.if_icmp .ge 27, 3) := by decide +kernel
theorem i_28_8 : gI 28 8 = some (.aload_n 0, 1) := by decide +kernel
theorem i_28_9 : gI 28 9 = some (.iload_n 1, 1) := by decide +kernel
theorem i_28_10 : gI 28 10 = some (.iload_n 2, 1) := by decide +kernel
theorem i_28_11 : gI 28 11 = some (.iconst 0, 1) := by decide +kernel
theorem i_28_12 : gI 28 12 = some (.invokevirtual 65, 3) := by decide +kernel
theorem v_28_65 : gIv 28 65 = some (27, 3, 1, 5, 536, 537, 538, 0, none) := jv_eq (by decide +kernel)
theorem i_28_15 : gI 28 15 = some (.ifCond .ge 5, 3) := by decide +kernel
theorem i_28_18 : gI 28 18 = some (.iconst (-1), 1) := by decide +kernel
theorem i_28_19 : gI 28 19 = some (.ireturn, 1) := by decide +kernel
theorem i_28_20 : gI 28 20 = some (.goto 6, 3) := by decide +kernel
theorem i_28_23 : gI 28 23 = some (.astore_n 3, 1) := by decide +kernel
theorem i_28_24 : gI 28 24 = some (.iload_n 2, 1) := by decide +kernel
theorem i_28_25 : gI 28 25 = some (.ireturn, 1) := by decide +kernel
theorem i_28_26 : gI 28 26 = some (.iinc 2 1, 3) := by decide +kernel
theorem i_28_29 : gI 28 29 = some (.goto (-27), 3) := by decide +kernel
theorem i_28_32 : gI 28 32 = some (.bipush 6, 2) := by decide +kernel
theorem i_28_34 : gI 28 34 = some (.ireturn, 1) := by decide +kernel
theorem r_29 : gR 29 = some (.boolean) := by decide +kernel
theorem l_29 : gLo 29 = 3 := by decide +kernel
theorem i_29_0 : gI 29 0 = some (.iconst 0, 1) := by decide +kernel
theorem i_29_1 : gI 29 1 = some (.istore_n 2, 1) := by decide +kernel
theorem i_29_2 : gI 29 2 = some (.iload_n 2, 1) := by decide +kernel
theorem i_29_3 : gI 29 3 = some (.aload_n 0, 1) := by decide +kernel
theorem i_29_4 : gI 29 4 = some (.getfield 22, 3) := by decide +kernel
theorem f_29_22 : gFld 29 22 = some (1, 1, 184, none, "FlyTower$Cue") := by decide +kernel
theorem i_29_7 : gI 29 7 = some (.if_icmp .ge 24, 3) := by decide +kernel
theorem i_29_10 : gI 29 10 = some (.aload_n 0, 1) := by decide +kernel
theorem i_29_11 : gI 29 11 = some (.getfield 17, 3) := by decide +kernel
theorem f_29_17 : gFld 29 17 = some (1, 0, 181, none, "FlyTower$Cue") := by decide +kernel
theorem i_29_14 : gI 29 14 = some (.iload_n 2, 1) := by decide +kernel
theorem i_29_15 : gI 29 15 = some (.aaload, 1) := by decide +kernel
theorem i_29_16 : gI 29 16 = some (.getfield 36, 3) := by decide +kernel
theorem f_29_36 : gFld 29 36 = some (2, 0, 148, some "FlyTower", "FlyTower$Move") := by decide +kernel
theorem i_29_19 : gI 29 19 = some (.iload_n 1, 1) := by decide +kernel
theorem i_29_20 : gI 29 20 = some (.if_icmp .ne 5, 3) := by decide +kernel
theorem i_29_23 : gI 29 23 = some (.iconst 1, 1) := by decide +kernel
theorem i_29_24 : gI 29 24 = some (.ireturn, 1) := by decide +kernel
theorem i_29_25 : gI 29 25 = some (.iinc 2 1, 3) := by decide +kernel
theorem i_29_28 : gI 29 28 = some (.goto (-26), 3) := by decide +kernel
theorem i_29_31 : gI 29 31 = some (.iconst 0, 1) := by decide +kernel
theorem i_29_32 : gI 29 32 = some (.ireturn, 1) := by decide +kernel
theorem r_30 : gR 30 = some (.int) := by decide +kernel
theorem l_30 : gLo 30 = 9 := by decide +kernel
theorem th_30_30 : gThr 30 30 = some ("java/lang/IllegalArgumentException", 30, 106, 34, "a TARGET is 0 to 120", false) := by decide +kernel
theorem th_30_53 : gThr 30 53 = some ("java/lang/IllegalArgumentException", 30, 108, 34, "a SPEED is 1 to 6", false) := by decide +kernel
theorem th_30_75 : gThr 30 75 = some ("java/lang/IllegalArgumentException", 30, 110, 34, "a DELAY is 0 to 20", false) := by decide +kernel
theorem th_30_96 : gThr 30 96 = some ("java/lang/IllegalStateException", 41, 115, 45, "that CUE RUNS", false) := by decide +kernel
theorem th_30_116 : gThr 30 116 = some ("java/lang/IllegalStateException", 41, 120, 45, "that CUE has 6 MOVES", false) := by decide +kernel
theorem th_30_139 : gThr 30 139 = some ("java/lang/IllegalStateException", 41, 126, 45, "that CUE has a MOVE of that BAR", false) := by decide +kernel
theorem i_30_0 : gI 30 0 = some (.aload_n 0, 1) := by decide +kernel
theorem i_30_1 : gI 30 1 = some (.getfield 10, 3) := by decide +kernel
theorem f_30_10 : gFld 30 10 = some (5, 0, 290, none, "FlyTower") := by decide +kernel
theorem i_30_4 : gI 30 4 = some (.iload_n 1, 1) := by decide +kernel
theorem i_30_5 : gI 30 5 = some (.invokevirtual 98, 3) := by decide +kernel
theorem v_30_98 : gIv 30 98 = some (11, 1, 4, 4, 483, 485, 6, 0, some "FlyTower") := jv_eq (by decide +kernel)
theorem i_30_8 : gI 30 8 = some (.astore 6, 2) := by decide +kernel
theorem i_30_10 : gI 30 10 = some (.aload_n 0, 1) := by decide +kernel
theorem i_30_11 : gI 30 11 = some (.getfield 10, 3) := by decide +kernel
theorem i_30_14 : gI 30 14 = some (.iload_n 2, 1) := by decide +kernel
theorem i_30_15 : gI 30 15 = some (.invokevirtual 102, 3) := by decide +kernel
theorem v_30_102 : gIv 30 102 = some (16, 1, 4, 4, 418, 420, 1, 0, some "FlyTower") := jv_eq (by decide +kernel)
theorem i_30_18 : gI 30 18 = some (.astore 7, 2) := by decide +kernel
theorem i_30_20 : gI 30 20 = some (.iload_n 3, 1) := by decide +kernel
theorem i_30_21 : gI 30 21 = some (.ifCond .lt 9, 3) := by decide +kernel
theorem i_30_24 : gI 30 24 = some (.iload_n 3, 1) := by decide +kernel
theorem i_30_25 : gI 30 25 = some (.bipush 120, 2) := by decide +kernel
theorem i_30_27 : gI 30 27 = some (.if_icmp .le 13, 3) := by decide +kernel
theorem i_30_30 : gI 30 30 = some (.new 30, 3) := by decide +kernel
theorem i_30_33 : gI 30 33 = some (.dup, 1) := by decide +kernel
theorem i_30_34 : gI 30 34 = some (.ldc 106, 2) := by decide +kernel
theorem i_30_36 : gI 30 36 = some (.invokespecial 34, 3) := by decide +kernel
theorem i_30_39 : gI 30 39 = some (.athrow, 1) := by decide +kernel
theorem i_30_40 : gI 30 40 = some (.iload 4, 2) := by decide +kernel
theorem i_30_42 : gI 30 42 = some (.iconst 1, 1) := by decide +kernel
theorem i_30_43 : gI 30 43 = some (.if_icmp .lt 10, 3) := by decide +kernel
theorem i_30_46 : gI 30 46 = some (.iload 4, 2) := by decide +kernel
theorem i_30_48 : gI 30 48 = some (.bipush 6, 2) := by decide +kernel
theorem i_30_50 : gI 30 50 = some (.if_icmp .le 13, 3) := by decide +kernel
theorem i_30_53 : gI 30 53 = some (.new 30, 3) := by decide +kernel
theorem i_30_56 : gI 30 56 = some (.dup, 1) := by decide +kernel
theorem i_30_57 : gI 30 57 = some (.ldc 108, 2) := by decide +kernel
theorem i_30_59 : gI 30 59 = some (.invokespecial 34, 3) := by decide +kernel
theorem i_30_62 : gI 30 62 = some (.athrow, 1) := by decide +kernel
theorem i_30_63 : gI 30 63 = some (.iload 5, 2) := by decide +kernel
theorem i_30_65 : gI 30 65 = some (.ifCond .lt 10, 3) := by decide +kernel
theorem i_30_68 : gI 30 68 = some (.iload 5, 2) := by decide +kernel
theorem i_30_70 : gI 30 70 = some (.bipush 20, 2) := by decide +kernel
theorem i_30_72 : gI 30 72 = some (.if_icmp .le 13, 3) := by decide +kernel
theorem i_30_75 : gI 30 75 = some (.new 30, 3) := by decide +kernel
theorem i_30_78 : gI 30 78 = some (.dup, 1) := by decide +kernel
theorem i_30_79 : gI 30 79 = some (.ldc 110, 2) := by decide +kernel
theorem i_30_81 : gI 30 81 = some (.invokespecial 34, 3) := by decide +kernel
theorem i_30_84 : gI 30 84 = some (.athrow, 1) := by decide +kernel
theorem i_30_85 : gI 30 85 = some (.aload_n 0, 1) := by decide +kernel
theorem i_30_86 : gI 30 86 = some (.getfield 10, 3) := by decide +kernel
theorem i_30_89 : gI 30 89 = some (.getfield 112, 3) := by decide +kernel
theorem f_30_112 : gFld 30 112 = some (4, 7, 211, some "FlyTower", "FlyTower$Rig") := by decide +kernel
theorem i_30_92 : gI 30 92 = some (.iload_n 1, 1) := by decide +kernel
theorem i_30_93 : gI 30 93 = some (.if_icmp .ne 13, 3) := by decide +kernel
theorem i_30_96 : gI 30 96 = some (.new 41, 3) := by decide +kernel
theorem i_30_99 : gI 30 99 = some (.dup, 1) := by decide +kernel
theorem i_30_100 : gI 30 100 = some (.ldc 115, 2) := by decide +kernel
theorem i_30_102 : gI 30 102 = some (.invokespecial 45, 3) := by decide +kernel
theorem i_30_105 : gI 30 105 = some (.athrow, 1) := by decide +kernel
theorem i_30_106 : gI 30 106 = some (.aload 6, 2) := by decide +kernel
theorem i_30_108 : gI 30 108 = some (.getfield 117, 3) := by decide +kernel
theorem f_30_117 : gFld 30 117 = some (1, 1, 185, some "FlyTower", "FlyTower$Cue") := by decide +kernel
theorem i_30_111 : gI 30 111 = some (.bipush 6, 2) := by decide +kernel
theorem i_30_113 : gI 30 113 = some (.if_icmp .lt 13, 3) := by decide +kernel
theorem i_30_116 : gI 30 116 = some (.new 41, 3) := by decide +kernel
theorem i_30_119 : gI 30 119 = some (.dup, 1) := by decide +kernel
theorem i_30_120 : gI 30 120 = some (.ldc 120, 2) := by decide +kernel
theorem i_30_122 : gI 30 122 = some (.invokespecial 45, 3) := by decide +kernel
theorem i_30_125 : gI 30 125 = some (.athrow, 1) := by decide +kernel
theorem i_30_126 : gI 30 126 = some (.aload 6, 2) := by decide +kernel
theorem i_30_128 : gI 30 128 = some (.aload 7, 2) := by decide +kernel
theorem i_30_130 : gI 30 130 = some (.getfield 59, 3) := by decide +kernel
theorem f_30_59 : gFld 30 59 = some (0, 0, 75, some "FlyTower", "FlyTower$Bar") := by decide +kernel
theorem i_30_133 : gI 30 133 = some (.invokevirtual 122, 3) := by decide +kernel
theorem v_30_122 : gIv 30 122 = some (29, 1, 4, 1, 695, 697, 35, 0, some "FlyTower") := jv_eq (by decide +kernel)
theorem i_30_136 : gI 30 136 = some (.ifCond .eq 13, 3) := by decide +kernel
theorem i_30_139 : gI 30 139 = some (.new 41, 3) := by decide +kernel
theorem i_30_142 : gI 30 142 = some (.dup, 1) := by decide +kernel
theorem i_30_143 : gI 30 143 = some (.ldc 126, 2) := by decide +kernel
theorem i_30_145 : gI 30 145 = some (.invokespecial 45, 3) := by decide +kernel
theorem i_30_148 : gI 30 148 = some (.athrow, 1) := by decide +kernel
theorem i_30_149 : gI 30 149 = some (.aload 6, 2) := by decide +kernel
theorem i_30_151 : gI 30 151 = some (.getfield 128, 3) := by decide +kernel
theorem f_30_128 : gFld 30 128 = some (1, 0, 182, some "FlyTower", "FlyTower$Cue") := by decide +kernel
theorem i_30_154 : gI 30 154 = some (.aload 6, 2) := by decide +kernel
theorem i_30_156 : gI 30 156 = some (.getfield 117, 3) := by decide +kernel
theorem i_30_159 : gI 30 159 = some (.aaload, 1) := by decide +kernel
theorem i_30_160 : gI 30 160 = some (.astore 8, 2) := by decide +kernel
theorem i_30_162 : gI 30 162 = some (.aload 8, 2) := by decide +kernel
theorem i_30_164 : gI 30 164 = some (.aload 7, 2) := by decide +kernel
theorem i_30_166 : gI 30 166 = some (.getfield 59, 3) := by decide +kernel
theorem i_30_169 : gI 30 169 = some (.putfield 132, 3) := by decide +kernel
theorem f_30_132 : gFld 30 132 = some (2, 0, 149, some "FlyTower", "FlyTower$Move") := by decide +kernel
theorem i_30_172 : gI 30 172 = some (.aload 8, 2) := by decide +kernel
theorem i_30_174 : gI 30 174 = some (.iload_n 3, 1) := by decide +kernel
theorem i_30_175 : gI 30 175 = some (.putfield 137, 3) := by decide +kernel
theorem f_30_137 : gFld 30 137 = some (2, 1, 152, some "FlyTower", "FlyTower$Move") := by decide +kernel
theorem i_30_178 : gI 30 178 = some (.aload 8, 2) := by decide +kernel
theorem i_30_180 : gI 30 180 = some (.iload 4, 2) := by decide +kernel
theorem i_30_182 : gI 30 182 = some (.putfield 140, 3) := by decide +kernel
theorem f_30_140 : gFld 30 140 = some (2, 2, 155, some "FlyTower", "FlyTower$Move") := by decide +kernel
theorem i_30_185 : gI 30 185 = some (.aload 8, 2) := by decide +kernel
theorem i_30_187 : gI 30 187 = some (.iload 5, 2) := by decide +kernel
theorem i_30_189 : gI 30 189 = some (.putfield 143, 3) := by decide +kernel
theorem f_30_143 : gFld 30 143 = some (2, 3, 158, some "FlyTower", "FlyTower$Move") := by decide +kernel
theorem i_30_192 : gI 30 192 = some (.aload 6, 2) := by decide +kernel
theorem i_30_194 : gI 30 194 = some (.dup, 1) := by decide +kernel
theorem i_30_195 : gI 30 195 = some (.getfield 117, 3) := by decide +kernel
theorem i_30_198 : gI 30 198 = some (.dup_x1, 1) := by decide +kernel
theorem i_30_199 : gI 30 199 = some (.iconst 1, 1) := by decide +kernel
theorem i_30_200 : gI 30 200 = some (.iadd, 1) := by decide +kernel
theorem i_30_201 : gI 30 201 = some (.putfield 117, 3) := by decide +kernel
theorem i_30_204 : gI 30 204 = some (.ireturn, 1) := by decide +kernel
theorem r_31 : gR 31 = some (.int) := by decide +kernel
theorem l_31 : gLo 31 = 7 := by decide +kernel
theorem i_31_0 : gI 31 0 = some (.aload_n 0, 1) := by decide +kernel
theorem i_31_1 : gI 31 1 = some (.iload_n 1, 1) := by decide +kernel
theorem i_31_2 : gI 31 2 = some (.iload_n 2, 1) := by decide +kernel
theorem i_31_3 : gI 31 3 = some (.iload_n 3, 1) := by decide +kernel
theorem i_31_4 : gI 31 4 = some (.iload 4, 2) := by decide +kernel
theorem i_31_6 : gI 31 6 = some (.iload 5, 2) := by decide +kernel
theorem i_31_8 : gI 31 8 = some (.invokevirtual 102, 3) := by decide +kernel
theorem v_31_102 : gIv 31 102 = some (30, 5, 1, 5, 686, 687, 688, 0, none) := jv_eq (by decide +kernel)
theorem i_31_11 : gI 31 11 = some (.ireturn, 1) := by decide +kernel
theorem i_31_12 : gI 31 12 = some (.astore 6, 2) := by decide +kernel
theorem i_31_14 : gI 31 14 = some (.iconst (-1), 1) := by decide +kernel
theorem i_31_15 : gI 31 15 = some (.ireturn, 1) := by decide +kernel
theorem r_32 : gR 32 = some (.int) := by decide +kernel
theorem l_32 : gLo 32 = 3 := by decide +kernel
theorem th_32_9 : gThr 32 9 = some ("java/lang/IllegalArgumentException", 30, 146, 34, "a CREW is 0 to 5", false) := by decide +kernel
theorem i_32_0 : gI 32 0 = some (.iload_n 1, 1) := by decide +kernel
theorem i_32_1 : gI 32 1 = some (.ifCond .lt 8, 3) := by decide +kernel
theorem i_32_4 : gI 32 4 = some (.iload_n 1, 1) := by decide +kernel
theorem i_32_5 : gI 32 5 = some (.iconst 5, 1) := by decide +kernel
theorem i_32_6 : gI 32 6 = some (.if_icmp .le 13, 3) := by decide +kernel
theorem i_32_9 : gI 32 9 = some (.new 30, 3) := by decide +kernel
theorem i_32_12 : gI 32 12 = some (.dup, 1) := by decide +kernel
theorem i_32_13 : gI 32 13 = some (.ldc 146, 2) := by decide +kernel
theorem i_32_15 : gI 32 15 = some (.invokespecial 34, 3) := by decide +kernel
theorem i_32_18 : gI 32 18 = some (.athrow, 1) := by decide +kernel
theorem i_32_19 : gI 32 19 = some (.aload_n 0, 1) := by decide +kernel
theorem i_32_20 : gI 32 20 = some (.getfield 10, 3) := by decide +kernel
theorem f_32_10 : gFld 32 10 = some (5, 0, 290, none, "FlyTower") := by decide +kernel
theorem i_32_23 : gI 32 23 = some (.getfield 148, 3) := by decide +kernel
theorem f_32_148 : gFld 32 148 = some (4, 4, 206, some "FlyTower", "FlyTower$Rig") := by decide +kernel
theorem i_32_26 : gI 32 26 = some (.istore_n 2, 1) := by decide +kernel
theorem i_32_27 : gI 32 27 = some (.aload_n 0, 1) := by decide +kernel
theorem i_32_28 : gI 32 28 = some (.getfield 10, 3) := by decide +kernel
theorem i_32_31 : gI 32 31 = some (.iload_n 1, 1) := by decide +kernel
theorem i_32_32 : gI 32 32 = some (.putfield 148, 3) := by decide +kernel
theorem i_32_35 : gI 32 35 = some (.iload_n 2, 1) := by decide +kernel
theorem i_32_36 : gI 32 36 = some (.ireturn, 1) := by decide +kernel
theorem r_33 : gR 33 = some (.boolean) := by decide +kernel
theorem l_33 : gLo 33 = 6 := by decide +kernel
theorem i_33_0 : gI 33 0 = some (.aload_n 0, 1) := by decide +kernel
theorem i_33_1 : gI 33 1 = some (.getfield 10, 3) := by decide +kernel
theorem f_33_10 : gFld 33 10 = some (5, 0, 290, none, "FlyTower") := by decide +kernel
theorem i_33_4 : gI 33 4 = some (.iload_n 1, 1) := by decide +kernel
theorem i_33_5 : gI 33 5 = some (.invokevirtual 102, 3) := by decide +kernel
theorem v_33_102 : gIv 33 102 = some (16, 1, 4, 4, 418, 420, 1, 0, some "FlyTower") := jv_eq (by decide +kernel)
theorem i_33_8 : gI 33 8 = some (.astore 4, 2) := by decide +kernel
theorem i_33_10 : gI 33 10 = some (.aload 4, 2) := by decide +kernel
theorem i_33_12 : gI 33 12 = some (.getfield 151, 3) := by decide +kernel
theorem f_33_151 : gFld 33 151 = some (0, 8, 94, some "FlyTower", "FlyTower$Bar") := by decide +kernel
theorem i_33_15 : gI 33 15 = some (.istore 5, 2) := by decide +kernel
theorem i_33_17 : gI 33 17 = some (.aload 4, 2) := by decide +kernel
theorem i_33_19 : gI 33 19 = some (.iload_n 2, 1) := by decide +kernel
theorem i_33_20 : gI 33 20 = some (.putfield 151, 3) := by decide +kernel
theorem i_33_23 : gI 33 23 = some (.aload 4, 2) := by decide +kernel
theorem i_33_25 : gI 33 25 = some (.iload_n 3, 1) := by decide +kernel
theorem i_33_26 : gI 33 26 = some (.putfield 154, 3) := by decide +kernel
theorem f_33_154 : gFld 33 154 = some (0, 9, 97, some "FlyTower", "FlyTower$Bar") := by decide +kernel
theorem i_33_29 : gI 33 29 = some (.iload 5, 2) := by decide +kernel
theorem i_33_31 : gI 33 31 = some (.ireturn, 1) := by decide +kernel
theorem r_34 : gR 34 = none := by decide +kernel
theorem l_34 : gLo 34 = 2 := by decide +kernel
theorem i_34_0 : gI 34 0 = some (.iconst 0, 1) := by decide +kernel
theorem i_34_1 : gI 34 1 = some (.istore_n 1, 1) := by decide +kernel
theorem i_34_2 : gI 34 2 = some (.iload_n 1, 1) := by decide +kernel
theorem i_34_3 : gI 34 3 = some (.aload_n 0, 1) := by decide +kernel
theorem i_34_4 : gI 34 4 = some (.getfield 22, 3) := by decide +kernel
theorem f_34_22 : gFld 34 22 = some (1, 1, 184, none, "FlyTower$Cue") := by decide +kernel
theorem i_34_7 : gI 34 7 = some (.if_icmp .ge 29, 3) := by decide +kernel
theorem i_34_10 : gI 34 10 = some (.aload_n 0, 1) := by decide +kernel
theorem i_34_11 : gI 34 11 = some (.getfield 17, 3) := by decide +kernel
theorem f_34_17 : gFld 34 17 = some (1, 0, 181, none, "FlyTower$Cue") := by decide +kernel
theorem i_34_14 : gI 34 14 = some (.iload_n 1, 1) := by decide +kernel
theorem i_34_15 : gI 34 15 = some (.aaload, 1) := by decide +kernel
theorem i_34_16 : gI 34 16 = some (.iconst 0, 1) := by decide +kernel
theorem i_34_17 : gI 34 17 = some (.putfield 39, 3) := by decide +kernel
theorem f_34_39 : gFld 34 39 = some (2, 4, 161, some "FlyTower", "FlyTower$Move") := by decide +kernel
theorem i_34_20 : gI 34 20 = some (.aload_n 0, 1) := by decide +kernel
theorem i_34_21 : gI 34 21 = some (.getfield 17, 3) := by decide +kernel
theorem i_34_24 : gI 34 24 = some (.iload_n 1, 1) := by decide +kernel
theorem i_34_25 : gI 34 25 = some (.aaload, 1) := by decide +kernel
theorem i_34_26 : gI 34 26 = some (.iconst 0, 1) := by decide +kernel
theorem i_34_27 : gI 34 27 = some (.putfield 42, 3) := by decide +kernel
theorem f_34_42 : gFld 34 42 = some (2, 5, 165, some "FlyTower", "FlyTower$Move") := by decide +kernel
theorem i_34_30 : gI 34 30 = some (.iinc 1 1, 3) := by decide +kernel
theorem i_34_33 : gI 34 33 = some (.goto (-31), 3) := by decide +kernel
theorem i_34_36 : gI 34 36 = some (.return_, 1) := by decide +kernel
theorem r_35 : gR 35 = none := by decide +kernel
theorem l_35 : gLo 35 = 2 := by decide +kernel
theorem i_35_0 : gI 35 0 = some (.aload_n 0, 1) := by decide +kernel
theorem i_35_1 : gI 35 1 = some (.iload_n 1, 1) := by decide +kernel
theorem i_35_2 : gI 35 2 = some (.invokevirtual 96, 3) := by decide +kernel
theorem v_35_96 : gIv 35 96 = some (11, 1, 1, 4, 492, 485, 6, 0, none) := jv_eq (by decide +kernel)
theorem i_35_5 : gI 35 5 = some (.invokevirtual 100, 3) := by decide +kernel
theorem v_35_100 : gIv 35 100 = some (34, 0, 4, 1, 493, 495, 8, 0, some "FlyTower") := jv_eq (by decide +kernel)
theorem i_35_8 : gI 35 8 = some (.aload_n 0, 1) := by decide +kernel
theorem i_35_9 : gI 35 9 = some (.iload_n 1, 1) := by decide +kernel
theorem i_35_10 : gI 35 10 = some (.putfield 15, 3) := by decide +kernel
theorem f_35_15 : gFld 35 15 = some (4, 7, 210, none, "FlyTower$Rig") := by decide +kernel
theorem i_35_13 : gI 35 13 = some (.aload_n 0, 1) := by decide +kernel
theorem i_35_14 : gI 35 14 = some (.iconst 0, 1) := by decide +kernel
theorem i_35_15 : gI 35 15 = some (.putfield 56, 3) := by decide +kernel
theorem f_35_56 : gFld 35 56 = some (4, 8, 212, none, "FlyTower$Rig") := by decide +kernel
theorem i_35_18 : gI 35 18 = some (.aload_n 0, 1) := by decide +kernel
theorem i_35_19 : gI 35 19 = some (.iconst 0, 1) := by decide +kernel
theorem i_35_20 : gI 35 20 = some (.putfield 60, 3) := by decide +kernel
theorem f_35_60 : gFld 35 60 = some (4, 9, 214, none, "FlyTower$Rig") := by decide +kernel
theorem i_35_23 : gI 35 23 = some (.return_, 1) := by decide +kernel
theorem r_36 : gR 36 = some (.int) := by decide +kernel
theorem l_36 : gLo 36 = 3 := by decide +kernel
theorem th_36_20 : gThr 36 20 = some ("java/lang/IllegalStateException", 41, 189, 45, "a CUE RUNS", false) := by decide +kernel
theorem i_36_0 : gI 36 0 = some (.aload_n 0, 1) := by decide +kernel
theorem i_36_1 : gI 36 1 = some (.getfield 10, 3) := by decide +kernel
theorem f_36_10 : gFld 36 10 = some (5, 0, 290, none, "FlyTower") := by decide +kernel
theorem i_36_4 : gI 36 4 = some (.iload_n 1, 1) := by decide +kernel
theorem i_36_5 : gI 36 5 = some (.invokevirtual 98, 3) := by decide +kernel
theorem v_36_98 : gIv 36 98 = some (11, 1, 4, 4, 483, 485, 6, 0, some "FlyTower") := jv_eq (by decide +kernel)
theorem i_36_8 : gI 36 8 = some (.astore_n 2, 1) := by decide +kernel
theorem i_36_9 : gI 36 9 = some (.aload_n 0, 1) := by decide +kernel
theorem i_36_10 : gI 36 10 = some (.getfield 10, 3) := by decide +kernel
theorem i_36_13 : gI 36 13 = some (.getfield 112, 3) := by decide +kernel
theorem f_36_112 : gFld 36 112 = some (4, 7, 211, some "FlyTower", "FlyTower$Rig") := by decide +kernel
theorem i_36_16 : gI 36 16 = some (.iconst (-1), 1) := by decide +kernel
theorem i_36_17 : gI 36 17 = some (.if_icmp .eq 13, 3) := by decide +kernel
theorem i_36_20 : gI 36 20 = some (.new 41, 3) := by decide +kernel
theorem i_36_23 : gI 36 23 = some (.dup, 1) := by decide +kernel
theorem i_36_24 : gI 36 24 = some (.ldc 189, 2) := by decide +kernel
theorem i_36_26 : gI 36 26 = some (.invokespecial 45, 3) := by decide +kernel
theorem i_36_29 : gI 36 29 = some (.athrow, 1) := by decide +kernel
theorem i_36_30 : gI 36 30 = some (.aload_n 0, 1) := by decide +kernel
theorem i_36_31 : gI 36 31 = some (.getfield 10, 3) := by decide +kernel
theorem i_36_34 : gI 36 34 = some (.iload_n 1, 1) := by decide +kernel
theorem i_36_35 : gI 36 35 = some (.invokevirtual 191, 3) := by decide +kernel
theorem v_36_191 : gIv 36 191 = some (35, 1, 4, 4, 488, 490, 7, 0, some "FlyTower") := jv_eq (by decide +kernel)
theorem i_36_38 : gI 36 38 = some (.aload_n 2, 1) := by decide +kernel
theorem i_36_39 : gI 36 39 = some (.getfield 117, 3) := by decide +kernel
theorem f_36_117 : gFld 36 117 = some (1, 1, 185, some "FlyTower", "FlyTower$Cue") := by decide +kernel
theorem i_36_42 : gI 36 42 = some (.ireturn, 1) := by decide +kernel
theorem r_37 : gR 37 = none := by decide +kernel
theorem l_37 : gLo 37 = 1 := by decide +kernel
theorem th_37_11 : gThr 37 11 = some ("java/lang/IllegalStateException", 41, 334, 45, "no CUE RUNS", true) := by decide +kernel
theorem i_37_0 : gI 37 0 = some (.aload_n 0, 1) := by decide +kernel
theorem i_37_1 : gI 37 1 = some (.getfield 10, 3) := by decide +kernel
theorem f_37_10 : gFld 37 10 = some (5, 0, 290, none, "FlyTower") := by decide +kernel
theorem i_37_4 : gI 37 4 = some (.getfield 112, 3) := by decide +kernel
theorem f_37_112 : gFld 37 112 = some (4, 7, 211, some "FlyTower", "FlyTower$Rig") := by decide +kernel
theorem i_37_7 : gI 37 7 = some (.iconst (-1), 1) := by decide +kernel
theorem i_37_8 : gI 37 8 = some (.if_icmp .ne 14, 3) := by decide +kernel
theorem i_37_11 : gI 37 11 = some (.new 41, 3) := by decide +kernel
theorem i_37_14 : gI 37 14 = some (.dup, 1) := by decide +kernel
theorem i_37_15 : gI 37 15 = some (.ldc_w 334, 3) := by decide +kernel
theorem i_37_18 : gI 37 18 = some (.invokespecial 45, 3) := by decide +kernel
theorem i_37_21 : gI 37 21 = some (.athrow, 1) := by decide +kernel
theorem i_37_22 : gI 37 22 = some (.return_, 1) := by decide +kernel
theorem r_38 : gR 38 = some (.boolean) := by decide +kernel
theorem l_38 : gLo 38 = 3 := by decide +kernel
theorem i_38_0 : gI 38 0 = some (.aload_n 0, 1) := by decide +kernel
theorem i_38_1 : gI 38 1 = some (.invokevirtual 195, 3) := by decide +kernel
theorem v_38_195 : gIv 38 195 = some (37, 0, 1, 5, 501, 503, 9, 0, none) := jv_eq (by decide +kernel)
theorem i_38_4 : gI 38 4 = some (.aload_n 0, 1) := by decide +kernel
theorem i_38_5 : gI 38 5 = some (.getfield 10, 3) := by decide +kernel
theorem f_38_10 : gFld 38 10 = some (5, 0, 290, none, "FlyTower") := by decide +kernel
theorem i_38_8 : gI 38 8 = some (.getfield 198, 3) := by decide +kernel
theorem f_38_198 : gFld 38 198 = some (4, 8, 213, some "FlyTower", "FlyTower$Rig") := by decide +kernel
theorem i_38_11 : gI 38 11 = some (.istore_n 2, 1) := by decide +kernel
theorem i_38_12 : gI 38 12 = some (.aload_n 0, 1) := by decide +kernel
theorem i_38_13 : gI 38 13 = some (.getfield 10, 3) := by decide +kernel
theorem i_38_16 : gI 38 16 = some (.iload_n 1, 1) := by decide +kernel
theorem i_38_17 : gI 38 17 = some (.putfield 198, 3) := by decide +kernel
theorem i_38_20 : gI 38 20 = some (.iload_n 2, 1) := by decide +kernel
theorem i_38_21 : gI 38 21 = some (.ireturn, 1) := by decide +kernel
theorem r_39 : gR 39 = none := by decide +kernel
theorem l_39 : gLo 39 = 1 := by decide +kernel
theorem i_39_0 : gI 39 0 = some (.aload_n 0, 1) := by decide +kernel
theorem i_39_1 : gI 39 1 = some (.iconst (-1), 1) := by decide +kernel
theorem i_39_2 : gI 39 2 = some (.putfield 15, 3) := by decide +kernel
theorem f_39_15 : gFld 39 15 = some (4, 7, 210, none, "FlyTower$Rig") := by decide +kernel
theorem i_39_5 : gI 39 5 = some (.aload_n 0, 1) := by decide +kernel
theorem i_39_6 : gI 39 6 = some (.iconst 0, 1) := by decide +kernel
theorem i_39_7 : gI 39 7 = some (.putfield 56, 3) := by decide +kernel
theorem f_39_56 : gFld 39 56 = some (4, 8, 212, none, "FlyTower$Rig") := by decide +kernel
theorem i_39_10 : gI 39 10 = some (.aload_n 0, 1) := by decide +kernel
theorem i_39_11 : gI 39 11 = some (.iconst 0, 1) := by decide +kernel
theorem i_39_12 : gI 39 12 = some (.putfield 60, 3) := by decide +kernel
theorem f_39_60 : gFld 39 60 = some (4, 9, 214, none, "FlyTower$Rig") := by decide +kernel
theorem i_39_15 : gI 39 15 = some (.return_, 1) := by decide +kernel
theorem r_40 : gR 40 = some (.int) := by decide +kernel
theorem l_40 : gLo 40 = 2 := by decide +kernel
theorem i_40_0 : gI 40 0 = some (.aload_n 0, 1) := by decide +kernel
theorem i_40_1 : gI 40 1 = some (.invokevirtual 195, 3) := by decide +kernel
theorem v_40_195 : gIv 40 195 = some (37, 0, 1, 5, 501, 503, 9, 0, none) := jv_eq (by decide +kernel)
theorem i_40_4 : gI 40 4 = some (.aload_n 0, 1) := by decide +kernel
theorem i_40_5 : gI 40 5 = some (.getfield 10, 3) := by decide +kernel
theorem f_40_10 : gFld 40 10 = some (5, 0, 290, none, "FlyTower") := by decide +kernel
theorem i_40_8 : gI 40 8 = some (.invokevirtual 201, 3) := by decide +kernel
theorem v_40_201 : gIv 40 201 = some (13, 0, 4, 4, 510, 512, 10, 0, some "FlyTower") := jv_eq (by decide +kernel)
theorem i_40_11 : gI 40 11 = some (.istore_n 1, 1) := by decide +kernel
theorem i_40_12 : gI 40 12 = some (.aload_n 0, 1) := by decide +kernel
theorem i_40_13 : gI 40 13 = some (.getfield 10, 3) := by decide +kernel
theorem i_40_16 : gI 40 16 = some (.invokevirtual 204, 3) := by decide +kernel
theorem v_40_204 : gIv 40 204 = some (39, 0, 4, 4, 518, 520, 12, 0, some "FlyTower") := jv_eq (by decide +kernel)
theorem i_40_19 : gI 40 19 = some (.iload_n 1, 1) := by decide +kernel
theorem i_40_20 : gI 40 20 = some (.ireturn, 1) := by decide +kernel
theorem r_41 : gR 41 = some (.boolean) := by decide +kernel
theorem l_41 : gLo 41 = 5 := by decide +kernel
theorem i_41_0 : gI 41 0 = some (.aload_n 0, 1) := by decide +kernel
theorem i_41_1 : gI 41 1 = some (.getfield 10, 3) := by decide +kernel
theorem f_41_10 : gFld 41 10 = some (5, 0, 290, none, "FlyTower") := by decide +kernel
theorem i_41_4 : gI 41 4 = some (.iload_n 1, 1) := by decide +kernel
theorem i_41_5 : gI 41 5 = some (.invokevirtual 102, 3) := by decide +kernel
theorem v_41_102 : gIv 41 102 = some (16, 1, 4, 4, 418, 420, 1, 0, some "FlyTower") := jv_eq (by decide +kernel)
theorem i_41_8 : gI 41 8 = some (.astore_n 3, 1) := by decide +kernel
theorem i_41_9 : gI 41 9 = some (.aload_n 3, 1) := by decide +kernel
theorem i_41_10 : gI 41 10 = some (.getfield 207, 3) := by decide +kernel
theorem f_41_207 : gFld 41 207 = some (0, 10, 101, some "FlyTower", "FlyTower$Bar") := by decide +kernel
theorem i_41_13 : gI 41 13 = some (.istore 4, 2) := by decide +kernel
theorem i_41_15 : gI 41 15 = some (.aload_n 3, 1) := by decide +kernel
theorem i_41_16 : gI 41 16 = some (.iload_n 2, 1) := by decide +kernel
theorem i_41_17 : gI 41 17 = some (.putfield 207, 3) := by decide +kernel
theorem i_41_20 : gI 41 20 = some (.iload 4, 2) := by decide +kernel
theorem i_41_22 : gI 41 22 = some (.ireturn, 1) := by decide +kernel
theorem r_42 : gR 42 = some (.boolean) := by decide +kernel
theorem l_42 : gLo 42 = 4 := by decide +kernel
theorem i_42_0 : gI 42 0 = some (.aload_n 0, 1) := by decide +kernel
theorem i_42_1 : gI 42 1 = some (.getfield 13, 3) := by decide +kernel
theorem f_42_13 : gFld 42 13 = some (0, 0, 74, none, "FlyTower$Bar") := by decide +kernel
theorem i_42_4 : gI 42 4 = some (.aload_n 2, 1) := by decide +kernel
theorem i_42_5 : gI 42 5 = some (.getfield 13, 3) := by decide +kernel
theorem i_42_8 : gI 42 8 = some (.if_icmp .ge 15, 3) := by decide +kernel
theorem i_42_11 : gI 42 11 = some (.aload_n 2, 1) := by decide +kernel
theorem i_42_12 : gI 42 12 = some (.getfield 13, 3) := by decide +kernel
theorem i_42_15 : gI 42 15 = some (.aload_n 0, 1) := by decide +kernel
theorem i_42_16 : gI 42 16 = some (.getfield 13, 3) := by decide +kernel
theorem i_42_19 : gI 42 19 = some (.isub, 1) := by decide +kernel
theorem i_42_20 : gI 42 20 = some (.goto 12, 3) := by decide +kernel
theorem i_42_23 : gI 42 23 = some (.aload_n 0, 1) := by decide +kernel
theorem i_42_24 : gI 42 24 = some (.getfield 13, 3) := by decide +kernel
theorem i_42_27 : gI 42 27 = some (.aload_n 2, 1) := by decide +kernel
theorem i_42_28 : gI 42 28 = some (.getfield 13, 3) := by decide +kernel
theorem i_42_31 : gI 42 31 = some (.isub, 1) := by decide +kernel
theorem i_42_32 : gI 42 32 = some (.istore_n 3, 1) := by decide +kernel
theorem i_42_33 : gI 42 33 = some (.iload_n 3, 1) := by decide +kernel
theorem i_42_34 : gI 42 34 = some (.ifCond .eq 46, 3) := by decide +kernel
theorem i_42_37 : gI 42 37 = some (.iload_n 3, 1) := by decide +kernel
theorem i_42_38 : gI 42 38 = some (.aload_n 0, 1) := by decide +kernel
theorem i_42_39 : gI 42 39 = some (.getfield 35, 3) := by decide +kernel
theorem f_42_35 : gFld 42 35 = some (0, 7, 91, none, "FlyTower$Bar") := by decide +kernel
theorem i_42_42 : gI 42 42 = some (.aload_n 2, 1) := by decide +kernel
theorem i_42_43 : gI 42 43 = some (.getfield 35, 3) := by decide +kernel
theorem i_42_46 : gI 42 46 = some (.iadd, 1) := by decide +kernel
theorem i_42_47 : gI 42 47 = some (.if_icmp .gt 33, 3) := by decide +kernel
theorem i_42_50 : gI 42 50 = some (.iload_n 1, 1) := by decide +kernel
theorem i_42_51 : gI 42 51 = some (.aload_n 0, 1) := by decide +kernel
theorem i_42_52 : gI 42 52 = some (.getfield 32, 3) := by decide +kernel
theorem f_42_32 : gFld 42 32 = some (0, 6, 89, none, "FlyTower$Bar") := by decide +kernel
theorem i_42_55 : gI 42 55 = some (.isub, 1) := by decide +kernel
theorem i_42_56 : gI 42 56 = some (.aload_n 2, 1) := by decide +kernel
theorem i_42_57 : gI 42 57 = some (.getfield 23, 3) := by decide +kernel
theorem f_42_23 : gFld 42 23 = some (0, 3, 82, none, "FlyTower$Bar") := by decide +kernel
theorem i_42_60 : gI 42 60 = some (.if_icmp .gt 20, 3) := by decide +kernel
theorem i_42_63 : gI 42 63 = some (.aload_n 2, 1) := by decide +kernel
theorem i_42_64 : gI 42 64 = some (.getfield 23, 3) := by decide +kernel
theorem i_42_67 : gI 42 67 = some (.aload_n 2, 1) := by decide +kernel
theorem i_42_68 : gI 42 68 = some (.getfield 32, 3) := by decide +kernel
theorem i_42_71 : gI 42 71 = some (.isub, 1) := by decide +kernel
theorem i_42_72 : gI 42 72 = some (.iload_n 1, 1) := by decide +kernel
theorem i_42_73 : gI 42 73 = some (.if_icmp .gt 7, 3) := by decide +kernel
theorem i_42_76 : gI 42 76 = some (.iconst 1, 1) := by decide +kernel
theorem i_42_77 : gI 42 77 = some (.goto 4, 3) := by decide +kernel
theorem i_42_80 : gI 42 80 = some (.iconst 0, 1) := by decide +kernel
theorem i_42_81 : gI 42 81 = some (.ireturn, 1) := by decide +kernel
theorem r_43 : gR 43 = some (.boolean) := by decide +kernel
theorem l_43 : gLo 43 = 5 := by decide +kernel
theorem i_43_0 : gI 43 0 = some (.aload_n 0, 1) := by decide +kernel
theorem i_43_1 : gI 43 1 = some (.getfield 10, 3) := by decide +kernel
theorem f_43_10 : gFld 43 10 = some (5, 0, 290, none, "FlyTower") := by decide +kernel
theorem i_43_4 : gI 43 4 = some (.iload_n 1, 1) := by decide +kernel
theorem i_43_5 : gI 43 5 = some (.invokevirtual 102, 3) := by decide +kernel
theorem v_43_102 : gIv 43 102 = some (16, 1, 4, 4, 418, 420, 1, 0, some "FlyTower") := jv_eq (by decide +kernel)
theorem i_43_8 : gI 43 8 = some (.astore_n 3, 1) := by decide +kernel
theorem i_43_9 : gI 43 9 = some (.aload_n 0, 1) := by decide +kernel
theorem i_43_10 : gI 43 10 = some (.getfield 10, 3) := by decide +kernel
theorem i_43_13 : gI 43 13 = some (.iload_n 2, 1) := by decide +kernel
theorem i_43_14 : gI 43 14 = some (.invokevirtual 102, 3) := by decide +kernel
theorem i_43_17 : gI 43 17 = some (.astore 4, 2) := by decide +kernel
theorem i_43_19 : gI 43 19 = some (.aload_n 3, 1) := by decide +kernel
theorem i_43_20 : gI 43 20 = some (.aload_n 3, 1) := by decide +kernel
theorem i_43_21 : gI 43 21 = some (.getfield 223, 3) := by decide +kernel
theorem f_43_223 : gFld 43 223 = some (0, 3, 84, some "FlyTower", "FlyTower$Bar") := by decide +kernel
theorem i_43_24 : gI 43 24 = some (.aload 4, 2) := by decide +kernel
theorem i_43_26 : gI 43 26 = some (.invokevirtual 251, 3) := by decide +kernel
theorem v_43_251 : gIv 43 251 = some (42, 2, 4, 0, 707, 627, 28, 0, some "FlyTower") := jv_eq (by decide +kernel)
theorem i_43_29 : gI 43 29 = some (.ireturn, 1) := by decide +kernel
theorem r_44 : gR 44 = some (.int) := by decide +kernel
theorem l_44 : gLo 44 = 2 := by decide +kernel
theorem i_44_0 : gI 44 0 = some (.aload_n 0, 1) := by decide +kernel
theorem i_44_1 : gI 44 1 = some (.invokevirtual 50, 3) := by decide +kernel
theorem v_44_50 : gIv 44 50 = some (17, 0, 1, 0, 612, 477, 5, 0, none) := jv_eq (by decide +kernel)
theorem i_44_4 : gI 44 4 = some (.istore_n 1, 1) := by decide +kernel
theorem i_44_5 : gI 44 5 = some (.iload_n 1, 1) := by decide +kernel
theorem i_44_6 : gI 44 6 = some (.ifCond .ge 8, 3) := by decide +kernel
theorem i_44_9 : gI 44 9 = some (.iload_n 1, 1) := by decide +kernel
theorem i_44_10 : gI 44 10 = some (.ineg, 1) := by decide +kernel
theorem i_44_11 : gI 44 11 = some (.goto 4, 3) := by decide +kernel
theorem i_44_14 : gI 44 14 = some (.iload_n 1, 1) := by decide +kernel
theorem i_44_15 : gI 44 15 = some (.ireturn, 1) := by decide +kernel
theorem r_45 : gR 45 = some (.boolean) := by decide +kernel
theorem l_45 : gLo 45 = 4 := by decide +kernel
theorem i_45_0 : gI 45 0 = some (.aload_n 2, 1) := by decide +kernel
theorem i_45_1 : gI 45 1 = some (.invokevirtual 156, 3) := by decide +kernel
theorem v_45_156 : gIv 45 156 = some (44, 0, 4, 0, 608, 610, 25, 0, some "FlyTower") := jv_eq (by decide +kernel)
theorem i_45_4 : gI 45 4 = some (.bipush 10, 2) := by decide +kernel
theorem i_45_6 : gI 45 6 = some (.if_icmp .le 20, 3) := by decide +kernel
theorem i_45_9 : gI 45 9 = some (.aload_n 1, 1) := by decide +kernel
theorem i_45_10 : gI 45 10 = some (.iconst 2, 1) := by decide +kernel
theorem i_45_11 : gI 45 11 = some (.putfield 133, 3) := by decide +kernel
theorem f_45_133 : gFld 45 133 = some (2, 4, 162, some "FlyTower", "FlyTower$Move") := by decide +kernel
theorem i_45_14 : gI 45 14 = some (.aload_n 0, 1) := by decide +kernel
theorem i_45_15 : gI 45 15 = some (.dup, 1) := by decide +kernel
theorem i_45_16 : gI 45 16 = some (.getfield 69, 3) := by decide +kernel
theorem f_45_69 : gFld 45 69 = some (4, 12, 220, none, "FlyTower$Rig") := by decide +kernel
theorem i_45_19 : gI 45 19 = some (.iconst 1, 1) := by decide +kernel
theorem i_45_20 : gI 45 20 = some (.iadd, 1) := by decide +kernel
theorem i_45_21 : gI 45 21 = some (.putfield 69, 3) := by decide +kernel
theorem i_45_24 : gI 45 24 = some (.iconst 0, 1) := by decide +kernel
theorem i_45_25 : gI 45 25 = some (.ireturn, 1) := by decide +kernel
theorem i_45_26 : gI 45 26 = some (.aload_n 2, 1) := by decide +kernel
theorem i_45_27 : gI 45 27 = some (.getfield 159, 3) := by decide +kernel
theorem f_45_159 : gFld 45 159 = some (0, 1, 79, some "FlyTower", "FlyTower$Bar") := by decide +kernel
theorem i_45_30 : gI 45 30 = some (.ifCond .ne 14, 3) := by decide +kernel
theorem i_45_33 : gI 45 33 = some (.aload_n 0, 1) := by decide +kernel
theorem i_45_34 : gI 45 34 = some (.getfield 50, 3) := by decide +kernel
theorem f_45_50 : gFld 45 50 = some (4, 5, 207, none, "FlyTower$Rig") := by decide +kernel
theorem i_45_37 : gI 45 37 = some (.ifCond .ne 7, 3) := by decide +kernel
theorem i_45_40 : gI 45 40 = some (.iconst 1, 1) := by decide +kernel
theorem i_45_41 : gI 45 41 = some (.goto 4, 3) := by decide +kernel
theorem i_45_44 : gI 45 44 = some (.iconst 0, 1) := by decide +kernel
theorem i_45_45 : gI 45 45 = some (.istore_n 3, 1) := by decide +kernel
theorem i_45_46 : gI 45 46 = some (.iload_n 3, 1) := by decide +kernel
theorem i_45_47 : gI 45 47 = some (.ifCond .ne 17, 3) := by decide +kernel
theorem i_45_50 : gI 45 50 = some (.aload_n 2, 1) := by decide +kernel
theorem i_45_51 : gI 45 51 = some (.getfield 162, 3) := by decide +kernel
theorem f_45_162 : gFld 45 162 = some (0, 8, 95, some "FlyTower", "FlyTower$Bar") := by decide +kernel
theorem i_45_54 : gI 45 54 = some (.ifCond .eq 32, 3) := by decide +kernel
theorem i_45_57 : gI 45 57 = some (.aload_n 2, 1) := by decide +kernel
theorem i_45_58 : gI 45 58 = some (.getfield 165, 3) := by decide +kernel
theorem f_45_165 : gFld 45 165 = some (0, 9, 98, some "FlyTower", "FlyTower$Bar") := by decide +kernel
theorem i_45_61 : gI 45 61 = some (.ifCond .ne 25, 3) := by decide +kernel
theorem i_45_64 : gI 45 64 = some (.aload_n 1, 1) := by decide +kernel
theorem i_45_65 : gI 45 65 = some (.dup, 1) := by decide +kernel
theorem i_45_66 : gI 45 66 = some (.getfield 168, 3) := by decide +kernel
theorem f_45_168 : gFld 45 168 = some (2, 5, 166, some "FlyTower", "FlyTower$Move") := by decide +kernel
theorem i_45_69 : gI 45 69 = some (.iconst 1, 1) := by decide +kernel
theorem i_45_70 : gI 45 70 = some (.iadd, 1) := by decide +kernel
theorem i_45_71 : gI 45 71 = some (.putfield 168, 3) := by decide +kernel
theorem i_45_74 : gI 45 74 = some (.aload_n 0, 1) := by decide +kernel
theorem i_45_75 : gI 45 75 = some (.dup, 1) := by decide +kernel
theorem i_45_76 : gI 45 76 = some (.getfield 81, 3) := by decide +kernel
theorem f_45_81 : gFld 45 81 = some (4, 16, 228, none, "FlyTower$Rig") := by decide +kernel
theorem i_45_79 : gI 45 79 = some (.iconst 1, 1) := by decide +kernel
theorem i_45_80 : gI 45 80 = some (.iadd, 1) := by decide +kernel
theorem i_45_81 : gI 45 81 = some (.putfield 81, 3) := by decide +kernel
theorem i_45_84 : gI 45 84 = some (.iconst 0, 1) := by decide +kernel
theorem i_45_85 : gI 45 85 = some (.ireturn, 1) := by decide +kernel
theorem i_45_86 : gI 45 86 = some (.iconst 1, 1) := by decide +kernel
theorem i_45_87 : gI 45 87 = some (.ireturn, 1) := by decide +kernel
