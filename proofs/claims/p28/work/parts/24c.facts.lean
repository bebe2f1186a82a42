theorem r_68 : gR 68 = some (.long) := by decide +kernel
theorem l_68 : gLo 68 = 9 := by decide +kernel
theorem i_68_0 : gI 68 0 = some (.lload_n 1, 1) := by decide +kernel
theorem i_68_1 : gI 68 1 = some (.lstore 4, 2) := by decide +kernel
theorem i_68_3 : gI 68 3 = some (.aload_n 0, 1) := by decide +kernel
theorem i_68_4 : gI 68 4 = some (.getfield 10, 3) := by decide +kernel
theorem f_68_10 : gFld 68 10 = some (5, 0, 290, none, "FlyTower") := by decide +kernel
theorem i_68_7 : gI 68 7 = some (.iload_n 3, 1) := by decide +kernel
theorem i_68_8 : gI 68 8 = some (.invokevirtual 98, 3) := by decide +kernel
theorem v_68_98 : gIv 68 98 = some (11, 1, 4, 4, 483, 485, 6, 0, some "FlyTower") := jv_eq (by decide +kernel)
theorem i_68_11 : gI 68 11 = some (.getfield 117, 3) := by decide +kernel
theorem f_68_117 : gFld 68 117 = some (1, 1, 185, some "FlyTower", "FlyTower$Cue") := by decide +kernel
theorem i_68_14 : gI 68 14 = some (.istore 6, 2) := by decide +kernel
theorem i_68_16 : gI 68 16 = some (.iconst 0, 1) := by decide +kernel
theorem i_68_17 : gI 68 17 = some (.istore 7, 2) := by decide +kernel
theorem i_68_19 : gI 68 19 = some (.iload 7, 2) := by decide +kernel
theorem i_68_21 : gI 68 21 = some (.iload 6, 2) := by decide +kernel
theorem i_68_23 : gI 68 23 = some (.if_icmp .ge 44, 3) := by decide +kernel
theorem i_68_26 : gI 68 26 = some (.iconst 0, 1) := by decide +kernel
theorem i_68_27 : gI 68 27 = some (.istore 8, 2) := by decide +kernel
theorem i_68_29 : gI 68 29 = some (.iload 8, 2) := by decide +kernel
theorem i_68_31 : gI 68 31 = some (.bipush 6, 2) := by decide +kernel
theorem i_68_33 : gI 68 33 = some (.if_icmp .ge 28, 3) := by decide +kernel
theorem i_68_36 : gI 68 36 = some (.lload 4, 2) := by decide +kernel
theorem i_68_38 : gI 68 38 = some (.ldc2_w 304, 3) := by decide +kernel
theorem c_68_304 : gCs 68 304 = some (.long (31), 562) := by decide +kernel
theorem i_68_41 : gI 68 41 = some (.lmul, 1) := by decide +kernel
theorem i_68_42 : gI 68 42 = some (.aload_n 0, 1) := by decide +kernel
theorem i_68_43 : gI 68 43 = some (.iload_n 3, 1) := by decide +kernel
theorem i_68_44 : gI 68 44 = some (.iload 7, 2) := by decide +kernel
theorem i_68_46 : gI 68 46 = some (.iload 8, 2) := by decide +kernel
theorem i_68_48 : gI 68 48 = some (.invokevirtual 325, 3) := by decide +kernel
theorem v_68_325 : gIv 68 325 = some (27, 3, 1, 5, 570, 537, 538, 0, none) := jv_eq (by decide +kernel)
theorem i_68_51 : gI 68 51 = some (.i2l, 1) := by decide +kernel
theorem i_68_52 : gI 68 52 = some (.ladd, 1) := by decide +kernel
theorem i_68_53 : gI 68 53 = some (.lstore 4, 2) := by decide +kernel
theorem i_68_55 : gI 68 55 = some (.iinc 8 1, 3) := by decide +kernel
theorem i_68_58 : gI 68 58 = some (.goto (-29), 3) := by decide +kernel
theorem i_68_61 : gI 68 61 = some (.iinc 7 1, 3) := by decide +kernel
theorem i_68_64 : gI 68 64 = some (.goto (-45), 3) := by decide +kernel
theorem i_68_67 : gI 68 67 = some (.lload 4, 2) := by decide +kernel
theorem i_68_69 : gI 68 69 = some (.lreturn, 1) := by decide +kernel
theorem r_69 : gR 69 = some (.boolean) := by decide +kernel
theorem l_69 : gLo 69 = 2 := by decide +kernel
theorem i_69_0 : gI 69 0 = some (.iload_n 0, 1) := by decide +kernel
theorem i_69_1 : gI 69 1 = some (.iload_n 1, 1) := by decide +kernel
theorem i_69_2 : gI 69 2 = some (.ishr, 1) := by decide +kernel
theorem i_69_3 : gI 69 3 = some (.iconst 1, 1) := by decide +kernel
theorem i_69_4 : gI 69 4 = some (.iand, 1) := by decide +kernel
theorem i_69_5 : gI 69 5 = some (.iconst 1, 1) := by decide +kernel
theorem i_69_6 : gI 69 6 = some (.if_icmp .ne 7, 3) := by decide +kernel
theorem i_69_9 : gI 69 9 = some (.iconst 1, 1) := by decide +kernel
theorem i_69_10 : gI 69 10 = some (.goto 4, 3) := by decide +kernel
theorem i_69_13 : gI 69 13 = some (.iconst 0, 1) := by decide +kernel
theorem i_69_14 : gI 69 14 = some (.ireturn, 1) := by decide +kernel
theorem r_70 : gR 70 = some (.boolean) := by decide +kernel
theorem l_70 : gLo 70 = 6 := by decide +kernel
theorem i_70_0 : gI 70 0 = some (.iconst 0, 1) := by decide +kernel
theorem i_70_1 : gI 70 1 = some (.istore 4, 2) := by decide +kernel
theorem i_70_3 : gI 70 3 = some (.iload 4, 2) := by decide +kernel
theorem i_70_5 : gI 70 5 = some (.iload_n 1, 1) := by decide +kernel
theorem i_70_6 : gI 70 6 = some (.if_icmp .ge 56, 3) := by decide +kernel
theorem i_70_9 : gI 70 9 = some (.aload_n 0, 1) := by decide +kernel
theorem i_70_10 : gI 70 10 = some (.getfield 21, 3) := by decide +kernel
theorem f_70_21 : gFld 70 21 = some (5, 2, 292, none, "FlyTower") := by decide +kernel
theorem i_70_13 : gI 70 13 = some (.iload 4, 2) := by decide +kernel
theorem i_70_15 : gI 70 15 = some (.aaload, 1) := by decide +kernel
theorem i_70_16 : gI 70 16 = some (.getfield 79, 3) := by decide +kernel
theorem f_70_79 : gFld 70 79 = some (3, 2, 278, some "FlyTower", "FlyTower$Piece") := by decide +kernel
theorem i_70_19 : gI 70 19 = some (.aload_n 0, 1) := by decide +kernel
theorem i_70_20 : gI 70 20 = some (.getfield 21, 3) := by decide +kernel
theorem i_70_23 : gI 70 23 = some (.iload_n 1, 1) := by decide +kernel
theorem i_70_24 : gI 70 24 = some (.aaload, 1) := by decide +kernel
theorem i_70_25 : gI 70 25 = some (.getfield 79, 3) := by decide +kernel
theorem i_70_28 : gI 70 28 = some (.iadd, 1) := by decide +kernel
theorem i_70_29 : gI 70 29 = some (.istore 5, 2) := by decide +kernel
theorem i_70_31 : gI 70 31 = some (.iload_n 3, 1) := by decide +kernel
theorem i_70_32 : gI 70 32 = some (.iload 4, 2) := by decide +kernel
theorem i_70_34 : gI 70 34 = some (.invokestatic 294, 3) := by decide +kernel
theorem v_70_294 : gIv 70 294 = some (69, 2, 0, 5, 659, 660, 0, 0, none) := jv_eq (by decide +kernel)
theorem i_70_37 : gI 70 37 = some (.ifCond .eq 19, 3) := by decide +kernel
theorem i_70_40 : gI 70 40 = some (.iload_n 2, 1) := by decide +kernel
theorem i_70_41 : gI 70 41 = some (.aload_n 0, 1) := by decide +kernel
theorem i_70_42 : gI 70 42 = some (.getfield 26, 3) := by decide +kernel
theorem f_70_26 : gFld 70 26 = some (5, 4, 294, none, "FlyTower") := by decide +kernel
theorem i_70_45 : gI 70 45 = some (.iload 4, 2) := by decide +kernel
theorem i_70_47 : gI 70 47 = some (.iaload, 1) := by decide +kernel
theorem i_70_48 : gI 70 48 = some (.isub, 1) := by decide +kernel
theorem i_70_49 : gI 70 49 = some (.iload 5, 2) := by decide +kernel
theorem i_70_51 : gI 70 51 = some (.if_icmp .gt 5, 3) := by decide +kernel
theorem i_70_54 : gI 70 54 = some (.iconst 0, 1) := by decide +kernel
theorem i_70_55 : gI 70 55 = some (.ireturn, 1) := by decide +kernel
theorem i_70_56 : gI 70 56 = some (.iinc 4 1, 3) := by decide +kernel
theorem i_70_59 : gI 70 59 = some (.goto (-56), 3) := by decide +kernel
theorem i_70_62 : gI 70 62 = some (.iconst 1, 1) := by decide +kernel
theorem i_70_63 : gI 70 63 = some (.ireturn, 1) := by decide +kernel
theorem r_71 : gR 71 = some (.int) := by decide +kernel
theorem l_71 : gLo 71 = 4 := by decide +kernel
theorem i_71_0 : gI 71 0 = some (.iconst 0, 1) := by decide +kernel
theorem i_71_1 : gI 71 1 = some (.istore_n 3, 1) := by decide +kernel
theorem i_71_2 : gI 71 2 = some (.iload_n 3, 1) := by decide +kernel
theorem i_71_3 : gI 71 3 = some (.aload_n 0, 1) := by decide +kernel
theorem i_71_4 : gI 71 4 = some (.getfield 10, 3) := by decide +kernel
theorem f_71_10 : gFld 71 10 = some (5, 0, 290, none, "FlyTower") := by decide +kernel
theorem i_71_7 : gI 71 7 = some (.getfield 37, 3) := by decide +kernel
theorem f_71_37 : gFld 71 37 = some (4, 1, 200, some "FlyTower", "FlyTower$Rig") := by decide +kernel
theorem i_71_10 : gI 71 10 = some (.if_icmp .ge 45, 3) := by decide +kernel
theorem i_71_13 : gI 71 13 = some (.aload_n 0, 1) := by decide +kernel
theorem i_71_14 : gI 71 14 = some (.getfield 21, 3) := by decide +kernel
theorem f_71_21 : gFld 71 21 = some (5, 2, 292, none, "FlyTower") := by decide +kernel
theorem i_71_17 : gI 71 17 = some (.iload_n 1, 1) := by decide +kernel
theorem i_71_18 : gI 71 18 = some (.aaload, 1) := by decide +kernel
theorem i_71_19 : gI 71 19 = some (.getfield 73, 3) := by decide +kernel
theorem f_71_73 : gFld 71 73 = some (3, 0, 276, some "FlyTower", "FlyTower$Piece") := by decide +kernel
theorem i_71_22 : gI 71 22 = some (.aload_n 0, 1) := by decide +kernel
theorem i_71_23 : gI 71 23 = some (.getfield 10, 3) := by decide +kernel
theorem i_71_26 : gI 71 26 = some (.getfield 46, 3) := by decide +kernel
theorem f_71_46 : gFld 71 46 = some (4, 0, 198, some "FlyTower", "FlyTower$Rig") := by decide +kernel
theorem i_71_29 : gI 71 29 = some (.iload_n 3, 1) := by decide +kernel
theorem i_71_30 : gI 71 30 = some (.aaload, 1) := by decide +kernel
theorem i_71_31 : gI 71 31 = some (.getfield 56, 3) := by decide +kernel
theorem f_71_56 : gFld 71 56 = some (0, 2, 81, some "FlyTower", "FlyTower$Bar") := by decide +kernel
theorem i_71_34 : gI 71 34 = some (.if_icmp .gt 15, 3) := by decide +kernel
theorem i_71_37 : gI 71 37 = some (.aload_n 0, 1) := by decide +kernel
theorem i_71_38 : gI 71 38 = some (.iload_n 1, 1) := by decide +kernel
theorem i_71_39 : gI 71 39 = some (.iload_n 3, 1) := by decide +kernel
theorem i_71_40 : gI 71 40 = some (.iload_n 2, 1) := by decide +kernel
theorem i_71_41 : gI 71 41 = some (.invokevirtual 346, 3) := by decide +kernel
theorem v_71_346 : gIv 71 346 = some (70, 3, 1, 5, 666, 668, 34, 0, none) := jv_eq (by decide +kernel)
theorem i_71_44 : gI 71 44 = some (.ifCond .eq 5, 3) := by decide +kernel
theorem i_71_47 : gI 71 47 = some (.iload_n 3, 1) := by decide +kernel
theorem i_71_48 : gI 71 48 = some (.ireturn, 1) := by decide +kernel
theorem i_71_49 : gI 71 49 = some (.iinc 3 1, 3) := by decide +kernel
theorem i_71_52 : gI 71 52 = some (.goto (-50), 3) := by decide +kernel
theorem i_71_55 : gI 71 55 = some (.iconst (-1), 1) := by decide +kernel
theorem i_71_56 : gI 71 56 = some (.ireturn, 1) := by decide +kernel
theorem r_72 : gR 72 = some (.int) := by decide +kernel
theorem l_72 : gLo 72 = 5 := by decide +kernel
theorem th_72_9 : gThr 72 9 = some ("java/lang/IllegalArgumentException", 30, 292, 34, "a bit is no PIECE", true) := by decide +kernel
theorem i_72_0 : gI 72 0 = some (.iload_n 1, 1) := by decide +kernel
theorem i_72_1 : gI 72 1 = some (.aload_n 0, 1) := by decide +kernel
theorem i_72_2 : gI 72 2 = some (.getfield 68, 3) := by decide +kernel
theorem f_72_68 : gFld 72 68 = some (5, 3, 293, none, "FlyTower") := by decide +kernel
theorem i_72_5 : gI 72 5 = some (.iushr, 1) := by decide +kernel
theorem i_72_6 : gI 72 6 = some (.ifCond .eq 14, 3) := by decide +kernel
theorem i_72_9 : gI 72 9 = some (.new 30, 3) := by decide +kernel
theorem i_72_12 : gI 72 12 = some (.dup, 1) := by decide +kernel
theorem i_72_13 : gI 72 13 = some (.ldc_w 292, 3) := by decide +kernel
theorem i_72_16 : gI 72 16 = some (.invokespecial 34, 3) := by decide +kernel
theorem i_72_19 : gI 72 19 = some (.athrow, 1) := by decide +kernel
theorem i_72_20 : gI 72 20 = some (.iconst 0, 1) := by decide +kernel
theorem i_72_21 : gI 72 21 = some (.istore_n 2, 1) := by decide +kernel
theorem i_72_22 : gI 72 22 = some (.iconst 0, 1) := by decide +kernel
theorem i_72_23 : gI 72 23 = some (.istore_n 3, 1) := by decide +kernel
theorem i_72_24 : gI 72 24 = some (.iload_n 3, 1) := by decide +kernel
theorem i_72_25 : gI 72 25 = some (.aload_n 0, 1) := by decide +kernel
theorem i_72_26 : gI 72 26 = some (.getfield 68, 3) := by decide +kernel
theorem i_72_29 : gI 72 29 = some (.if_icmp .ge 48, 3) := by decide +kernel
theorem i_72_32 : gI 72 32 = some (.iload_n 1, 1) := by decide +kernel
theorem i_72_33 : gI 72 33 = some (.iload_n 3, 1) := by decide +kernel
theorem i_72_34 : gI 72 34 = some (.invokestatic 294, 3) := by decide +kernel
theorem v_72_294 : gIv 72 294 = some (69, 2, 0, 5, 659, 660, 0, 0, none) := jv_eq (by decide +kernel)
theorem i_72_37 : gI 72 37 = some (.ifCond .eq 34, 3) := by decide +kernel
theorem i_72_40 : gI 72 40 = some (.aload_n 0, 1) := by decide +kernel
theorem i_72_41 : gI 72 41 = some (.iload_n 3, 1) := by decide +kernel
theorem i_72_42 : gI 72 42 = some (.iload_n 1, 1) := by decide +kernel
theorem i_72_43 : gI 72 43 = some (.invokevirtual 298, 3) := by decide +kernel
theorem v_72_298 : gIv 72 298 = some (71, 2, 1, 5, 662, 664, 33, 0, none) := jv_eq (by decide +kernel)
theorem i_72_46 : gI 72 46 = some (.istore 4, 2) := by decide +kernel
theorem i_72_48 : gI 72 48 = some (.iload 4, 2) := by decide +kernel
theorem i_72_50 : gI 72 50 = some (.iconst (-1), 1) := by decide +kernel
theorem i_72_51 : gI 72 51 = some (.if_icmp .ne 5, 3) := by decide +kernel
theorem i_72_54 : gI 72 54 = some (.iconst 0, 1) := by decide +kernel
theorem i_72_55 : gI 72 55 = some (.ireturn, 1) := by decide +kernel
theorem i_72_56 : gI 72 56 = some (.aload_n 0, 1) := by decide +kernel
theorem i_72_57 : gI 72 57 = some (.getfield 26, 3) := by decide +kernel
theorem f_72_26 : gFld 72 26 = some (5, 4, 294, none, "FlyTower") := by decide +kernel
theorem i_72_60 : gI 72 60 = some (.iload_n 3, 1) := by decide +kernel
theorem i_72_61 : gI 72 61 = some (.iload 4, 2) := by decide +kernel
theorem i_72_63 : gI 72 63 = some (.iastore, 1) := by decide +kernel
theorem i_72_64 : gI 72 64 = some (.iload_n 2, 1) := by decide +kernel
theorem i_72_65 : gI 72 65 = some (.iconst 1, 1) := by decide +kernel
theorem i_72_66 : gI 72 66 = some (.iload 4, 2) := by decide +kernel
theorem i_72_68 : gI 72 68 = some (.ishl, 1) := by decide +kernel
theorem i_72_69 : gI 72 69 = some (.ior, 1) := by decide +kernel
theorem i_72_70 : gI 72 70 = some (.istore_n 2, 1) := by decide +kernel
theorem i_72_71 : gI 72 71 = some (.iinc 3 1, 3) := by decide +kernel
theorem i_72_74 : gI 72 74 = some (.goto (-50), 3) := by decide +kernel
theorem i_72_77 : gI 72 77 = some (.iload_n 2, 1) := by decide +kernel
theorem i_72_78 : gI 72 78 = some (.ireturn, 1) := by decide +kernel
theorem r_73 : gR 73 = some (.long) := by decide +kernel
theorem l_73 : gLo 73 = 5 := by decide +kernel
theorem i_73_0 : gI 73 0 = some (.ldc2_w 302, 3) := by decide +kernel
theorem c_73_302 : gCs 73 302 = some (.long (9111), 561) := by decide +kernel
theorem i_73_3 : gI 73 3 = some (.lstore_n 1, 1) := by decide +kernel
theorem i_73_4 : gI 73 4 = some (.iconst 0, 1) := by decide +kernel
theorem i_73_5 : gI 73 5 = some (.istore_n 3, 1) := by decide +kernel
theorem i_73_6 : gI 73 6 = some (.iload_n 3, 1) := by decide +kernel
theorem i_73_7 : gI 73 7 = some (.bipush 16, 2) := by decide +kernel
theorem i_73_9 : gI 73 9 = some (.if_icmp .ge 22, 3) := by decide +kernel
theorem i_73_12 : gI 73 12 = some (.lload_n 1, 1) := by decide +kernel
theorem i_73_13 : gI 73 13 = some (.ldc2_w 304, 3) := by decide +kernel
theorem c_73_304 : gCs 73 304 = some (.long (31), 562) := by decide +kernel
theorem i_73_16 : gI 73 16 = some (.lmul, 1) := by decide +kernel
theorem i_73_17 : gI 73 17 = some (.aload_n 0, 1) := by decide +kernel
theorem i_73_18 : gI 73 18 = some (.iload_n 3, 1) := by decide +kernel
theorem i_73_19 : gI 73 19 = some (.invokevirtual 306, 3) := by decide +kernel
theorem v_73_306 : gIv 73 306 = some (15, 1, 1, 5, 563, 549, 550, 0, none) := jv_eq (by decide +kernel)
theorem i_73_22 : gI 73 22 = some (.i2l, 1) := by decide +kernel
theorem i_73_23 : gI 73 23 = some (.ladd, 1) := by decide +kernel
theorem i_73_24 : gI 73 24 = some (.lstore_n 1, 1) := by decide +kernel
theorem i_73_25 : gI 73 25 = some (.iinc 3 1, 3) := by decide +kernel
theorem i_73_28 : gI 73 28 = some (.goto (-22), 3) := by decide +kernel
theorem i_73_31 : gI 73 31 = some (.iconst 0, 1) := by decide +kernel
theorem i_73_32 : gI 73 32 = some (.istore_n 3, 1) := by decide +kernel
theorem i_73_33 : gI 73 33 = some (.iload_n 3, 1) := by decide +kernel
theorem i_73_34 : gI 73 34 = some (.aload_n 0, 1) := by decide +kernel
theorem i_73_35 : gI 73 35 = some (.getfield 10, 3) := by decide +kernel
theorem f_73_10 : gFld 73 10 = some (5, 0, 290, none, "FlyTower") := by decide +kernel
theorem i_73_38 : gI 73 38 = some (.getfield 37, 3) := by decide +kernel
theorem f_73_37 : gFld 73 37 = some (4, 1, 200, some "FlyTower", "FlyTower$Rig") := by decide +kernel
theorem i_73_41 : gI 73 41 = some (.if_icmp .ge 40, 3) := by decide +kernel
theorem i_73_44 : gI 73 44 = some (.iconst 0, 1) := by decide +kernel
theorem i_73_45 : gI 73 45 = some (.istore 4, 2) := by decide +kernel
theorem i_73_47 : gI 73 47 = some (.iload 4, 2) := by decide +kernel
theorem i_73_49 : gI 73 49 = some (.bipush 12, 2) := by decide +kernel
theorem i_73_51 : gI 73 51 = some (.if_icmp .ge 24, 3) := by decide +kernel
theorem i_73_54 : gI 73 54 = some (.lload_n 1, 1) := by decide +kernel
theorem i_73_55 : gI 73 55 = some (.ldc2_w 304, 3) := by decide +kernel
theorem i_73_58 : gI 73 58 = some (.lmul, 1) := by decide +kernel
theorem i_73_59 : gI 73 59 = some (.aload_n 0, 1) := by decide +kernel
theorem i_73_60 : gI 73 60 = some (.iload_n 3, 1) := by decide +kernel
theorem i_73_61 : gI 73 61 = some (.iload 4, 2) := by decide +kernel
theorem i_73_63 : gI 73 63 = some (.invokevirtual 309, 3) := by decide +kernel
theorem v_73_309 : gIv 73 309 = some (18, 2, 1, 5, 564, 527, 528, 0, none) := jv_eq (by decide +kernel)
theorem i_73_66 : gI 73 66 = some (.i2l, 1) := by decide +kernel
theorem i_73_67 : gI 73 67 = some (.ladd, 1) := by decide +kernel
theorem i_73_68 : gI 73 68 = some (.lstore_n 1, 1) := by decide +kernel
theorem i_73_69 : gI 73 69 = some (.iinc 4 1, 3) := by decide +kernel
theorem i_73_72 : gI 73 72 = some (.goto (-25), 3) := by decide +kernel
theorem i_73_75 : gI 73 75 = some (.iinc 3 1, 3) := by decide +kernel
theorem i_73_78 : gI 73 78 = some (.goto (-45), 3) := by decide +kernel
theorem i_73_81 : gI 73 81 = some (.iconst 0, 1) := by decide +kernel
theorem i_73_82 : gI 73 82 = some (.istore_n 3, 1) := by decide +kernel
theorem i_73_83 : gI 73 83 = some (.iload_n 3, 1) := by decide +kernel
theorem i_73_84 : gI 73 84 = some (.aload_n 0, 1) := by decide +kernel
theorem i_73_85 : gI 73 85 = some (.getfield 68, 3) := by decide +kernel
theorem f_73_68 : gFld 73 68 = some (5, 3, 293, none, "FlyTower") := by decide +kernel
theorem i_73_88 : gI 73 88 = some (.if_icmp .ge 39, 3) := by decide +kernel
theorem i_73_91 : gI 73 91 = some (.iconst 0, 1) := by decide +kernel
theorem i_73_92 : gI 73 92 = some (.istore 4, 2) := by decide +kernel
theorem i_73_94 : gI 73 94 = some (.iload 4, 2) := by decide +kernel
theorem i_73_96 : gI 73 96 = some (.iconst 4, 1) := by decide +kernel
theorem i_73_97 : gI 73 97 = some (.if_icmp .ge 24, 3) := by decide +kernel
theorem i_73_100 : gI 73 100 = some (.lload_n 1, 1) := by decide +kernel
theorem i_73_101 : gI 73 101 = some (.ldc2_w 304, 3) := by decide +kernel
theorem i_73_104 : gI 73 104 = some (.lmul, 1) := by decide +kernel
theorem i_73_105 : gI 73 105 = some (.aload_n 0, 1) := by decide +kernel
theorem i_73_106 : gI 73 106 = some (.iload_n 3, 1) := by decide +kernel
theorem i_73_107 : gI 73 107 = some (.iload 4, 2) := by decide +kernel
theorem i_73_109 : gI 73 109 = some (.invokevirtual 312, 3) := by decide +kernel
theorem v_73_312 : gIv 73 312 = some (20, 2, 1, 5, 565, 532, 533, 0, none) := jv_eq (by decide +kernel)
theorem i_73_112 : gI 73 112 = some (.i2l, 1) := by decide +kernel
theorem i_73_113 : gI 73 113 = some (.ladd, 1) := by decide +kernel
theorem i_73_114 : gI 73 114 = some (.lstore_n 1, 1) := by decide +kernel
theorem i_73_115 : gI 73 115 = some (.iinc 4 1, 3) := by decide +kernel
theorem i_73_118 : gI 73 118 = some (.goto (-24), 3) := by decide +kernel
theorem i_73_121 : gI 73 121 = some (.iinc 3 1, 3) := by decide +kernel
theorem i_73_124 : gI 73 124 = some (.goto (-41), 3) := by decide +kernel
theorem i_73_127 : gI 73 127 = some (.iconst 0, 1) := by decide +kernel
theorem i_73_128 : gI 73 128 = some (.istore_n 3, 1) := by decide +kernel
theorem i_73_129 : gI 73 129 = some (.iload_n 3, 1) := by decide +kernel
theorem i_73_130 : gI 73 130 = some (.aload_n 0, 1) := by decide +kernel
theorem i_73_131 : gI 73 131 = some (.getfield 10, 3) := by decide +kernel
theorem i_73_134 : gI 73 134 = some (.getfield 84, 3) := by decide +kernel
theorem f_73_84 : gFld 73 84 = some (4, 3, 204, some "FlyTower", "FlyTower$Rig") := by decide +kernel
theorem i_73_137 : gI 73 137 = some (.if_icmp .ge 44, 3) := by decide +kernel
theorem i_73_140 : gI 73 140 = some (.aload_n 0, 1) := by decide +kernel
theorem i_73_141 : gI 73 141 = some (.lload_n 1, 1) := by decide +kernel
theorem i_73_142 : gI 73 142 = some (.iload_n 3, 1) := by decide +kernel
theorem i_73_143 : gI 73 143 = some (.invokevirtual 315, 3) := by decide +kernel
theorem v_73_315 : gIv 73 315 = some (68, 2, 1, 5, 566, 568, 15, 0, none) := jv_eq (by decide +kernel)
theorem i_73_146 : gI 73 146 = some (.lstore_n 1, 1) := by decide +kernel
theorem i_73_147 : gI 73 147 = some (.lload_n 1, 1) := by decide +kernel
theorem i_73_148 : gI 73 148 = some (.ldc2_w 304, 3) := by decide +kernel
theorem i_73_151 : gI 73 151 = some (.lmul, 1) := by decide +kernel
theorem i_73_152 : gI 73 152 = some (.aload_n 0, 1) := by decide +kernel
theorem i_73_153 : gI 73 153 = some (.iload_n 3, 1) := by decide +kernel
theorem i_73_154 : gI 73 154 = some (.invokevirtual 279, 3) := by decide +kernel
theorem v_73_279 : gIv 73 279 = some (63, 1, 1, 5, 571, 573, 16, 0, none) := jv_eq (by decide +kernel)
theorem i_73_157 : gI 73 157 = some (.i2l, 1) := by decide +kernel
theorem i_73_158 : gI 73 158 = some (.ladd, 1) := by decide +kernel
theorem i_73_159 : gI 73 159 = some (.lstore_n 1, 1) := by decide +kernel
theorem i_73_160 : gI 73 160 = some (.lload_n 1, 1) := by decide +kernel
theorem i_73_161 : gI 73 161 = some (.ldc2_w 304, 3) := by decide +kernel
theorem i_73_164 : gI 73 164 = some (.lmul, 1) := by decide +kernel
theorem i_73_165 : gI 73 165 = some (.aload_n 0, 1) := by decide +kernel
theorem i_73_166 : gI 73 166 = some (.getfield 16, 3) := by decide +kernel
theorem f_73_16 : gFld 73 16 = some (5, 1, 291, none, "FlyTower") := by decide +kernel
theorem i_73_169 : gI 73 169 = some (.getfield 283, 3) := by decide +kernel
theorem f_73_283 : gFld 73 283 = some (4, 17, 231, some "FlyTower", "FlyTower$Rig") := by decide +kernel
theorem i_73_172 : gI 73 172 = some (.i2l, 1) := by decide +kernel
theorem i_73_173 : gI 73 173 = some (.ladd, 1) := by decide +kernel
theorem i_73_174 : gI 73 174 = some (.lstore_n 1, 1) := by decide +kernel
theorem i_73_175 : gI 73 175 = some (.iinc 3 1, 3) := by decide +kernel
theorem i_73_178 : gI 73 178 = some (.goto (-49), 3) := by decide +kernel
theorem i_73_181 : gI 73 181 = some (.lload_n 1, 1) := by decide +kernel
theorem i_73_182 : gI 73 182 = some (.ldc2_w 304, 3) := by decide +kernel
theorem i_73_185 : gI 73 185 = some (.lmul, 1) := by decide +kernel
theorem i_73_186 : gI 73 186 = some (.aload_n 0, 1) := by decide +kernel
theorem i_73_187 : gI 73 187 = some (.bipush 9, 2) := by decide +kernel
theorem i_73_189 : gI 73 189 = some (.invokevirtual 319, 3) := by decide +kernel
theorem v_73_319 : gIv 73 319 = some (66, 1, 1, 5, 649, 650, 651, 0, none) := jv_eq (by decide +kernel)
theorem i_73_192 : gI 73 192 = some (.i2l, 1) := by decide +kernel
theorem i_73_193 : gI 73 193 = some (.ladd, 1) := by decide +kernel
theorem i_73_194 : gI 73 194 = some (.lstore_n 1, 1) := by decide +kernel
theorem i_73_195 : gI 73 195 = some (.lload_n 1, 1) := by decide +kernel
theorem i_73_196 : gI 73 196 = some (.ldc2_w 304, 3) := by decide +kernel
theorem i_73_199 : gI 73 199 = some (.lmul, 1) := by decide +kernel
theorem i_73_200 : gI 73 200 = some (.aload_n 0, 1) := by decide +kernel
theorem i_73_201 : gI 73 201 = some (.iconst 1, 1) := by decide +kernel
theorem i_73_202 : gI 73 202 = some (.aload_n 0, 1) := by decide +kernel
theorem i_73_203 : gI 73 203 = some (.getfield 68, 3) := by decide +kernel
theorem i_73_206 : gI 73 206 = some (.ishl, 1) := by decide +kernel
theorem i_73_207 : gI 73 207 = some (.iconst 1, 1) := by decide +kernel
theorem i_73_208 : gI 73 208 = some (.isub, 1) := by decide +kernel
theorem i_73_209 : gI 73 209 = some (.invokevirtual 322, 3) := by decide +kernel
theorem v_73_322 : gIv 73 322 = some (72, 1, 1, 5, 654, 655, 656, 0, none) := jv_eq (by decide +kernel)
theorem i_73_212 : gI 73 212 = some (.i2l, 1) := by decide +kernel
theorem i_73_213 : gI 73 213 = some (.ladd, 1) := by decide +kernel
theorem i_73_214 : gI 73 214 = some (.lreturn, 1) := by decide +kernel
theorem r_74 : gR 74 = some (.boolean) := by decide +kernel
theorem l_74 : gLo 74 = 15 := by decide +kernel
theorem i_74_0 : gI 74 0 = some (.new 9, 3) := by decide +kernel
theorem i_74_3 : gI 74 3 = some (.dup, 1) := by decide +kernel
theorem i_74_4 : gI 74 4 = some (.invokespecial 11, 3) := by decide +kernel
theorem v_74_11 : gIv 74 11 = some (5, 0, 2, 5, 55, 56, 0, 0, none) := jv_eq (by decide +kernel)
theorem i_74_7 : gI 74 7 = some (.astore_n 1, 1) := by decide +kernel
theorem i_74_8 : gI 74 8 = some (.iconst 2, 1) := by decide +kernel
theorem i_74_9 : gI 74 9 = some (.aload_n 0, 1) := by decide +kernel
theorem i_74_10 : gI 74 10 = some (.iconst 0, 1) := by decide +kernel
theorem i_74_11 : gI 74 11 = some (.invokestatic 12, 3) := by decide +kernel
theorem v_74_12 : gIv 74 12 = some (6, 2, 0, 0, 674, 675, 0, 0, none) := jv_eq (by decide +kernel)
theorem i_74_14 : gI 74 14 = some (.bipush 7, 2) := by decide +kernel
theorem i_74_16 : gI 74 16 = some (.invokestatic 18, 3) := by decide +kernel
theorem v_74_18 : gIv 74 18 = some (7, 2, 0, 0, 670, 671, 0, 0, none) := jv_eq (by decide +kernel)
theorem i_74_19 : gI 74 19 = some (.iadd, 1) := by decide +kernel
theorem i_74_20 : gI 74 20 = some (.istore_n 2, 1) := by decide +kernel
theorem i_74_21 : gI 74 21 = some (.iconst 0, 1) := by decide +kernel
theorem i_74_22 : gI 74 22 = some (.istore_n 3, 1) := by decide +kernel
theorem i_74_23 : gI 74 23 = some (.iload_n 3, 1) := by decide +kernel
theorem i_74_24 : gI 74 24 = some (.iload_n 2, 1) := by decide +kernel
theorem i_74_25 : gI 74 25 = some (.if_icmp .ge 54, 3) := by decide +kernel
theorem i_74_28 : gI 74 28 = some (.aload_n 1, 1) := by decide +kernel
theorem i_74_29 : gI 74 29 = some (.aload_n 0, 1) := by decide +kernel
theorem i_74_30 : gI 74 30 = some (.iconst 1, 1) := by decide +kernel
theorem i_74_31 : gI 74 31 = some (.invokestatic 12, 3) := by decide +kernel
theorem i_74_34 : gI 74 34 = some (.iload_n 3, 1) := by decide +kernel
theorem i_74_35 : gI 74 35 = some (.ishr, 1) := by decide +kernel
theorem i_74_36 : gI 74 36 = some (.iconst 3, 1) := by decide +kernel
theorem i_74_37 : gI 74 37 = some (.invokestatic 18, 3) := by decide +kernel
theorem i_74_40 : gI 74 40 = some (.ifCond .ne 7, 3) := by decide +kernel
theorem i_74_43 : gI 74 43 = some (.iconst 1, 1) := by decide +kernel
theorem i_74_44 : gI 74 44 = some (.goto 4, 3) := by decide +kernel
theorem i_74_47 : gI 74 47 = some (.iconst 0, 1) := by decide +kernel
theorem i_74_48 : gI 74 48 = some (.bipush 30, 2) := by decide +kernel
theorem i_74_50 : gI 74 50 = some (.aload_n 0, 1) := by decide +kernel
theorem i_74_51 : gI 74 51 = some (.iconst 2, 1) := by decide +kernel
theorem i_74_52 : gI 74 52 = some (.invokestatic 12, 3) := by decide +kernel
theorem i_74_55 : gI 74 55 = some (.iload_n 3, 1) := by decide +kernel
theorem i_74_56 : gI 74 56 = some (.ishr, 1) := by decide +kernel
theorem i_74_57 : gI 74 57 = some (.sipush 200, 3) := by decide +kernel
theorem i_74_60 : gI 74 60 = some (.invokestatic 18, 3) := by decide +kernel
theorem i_74_63 : gI 74 63 = some (.iadd, 1) := by decide +kernel
theorem i_74_64 : gI 74 64 = some (.invokevirtual 22, 3) := by decide +kernel
theorem v_74_22 : gIv 74 22 = some (8, 2, 1, 5, 307, 308, 309, 0, none) := jv_eq (by decide +kernel)
theorem i_74_67 : gI 74 67 = some (.iload_n 3, 1) := by decide +kernel
theorem i_74_68 : gI 74 68 = some (.if_icmp .eq 5, 3) := by decide +kernel
theorem i_74_71 : gI 74 71 = some (.iconst 0, 1) := by decide +kernel
theorem i_74_72 : gI 74 72 = some (.ireturn, 1) := by decide +kernel
theorem i_74_73 : gI 74 73 = some (.iinc 3 1, 3) := by decide +kernel
theorem i_74_76 : gI 74 76 = some (.goto (-53), 3) := by decide +kernel
theorem i_74_79 : gI 74 79 = some (.iconst 0, 1) := by decide +kernel
theorem i_74_80 : gI 74 80 = some (.istore_n 3, 1) := by decide +kernel
theorem i_74_81 : gI 74 81 = some (.iload_n 3, 1) := by decide +kernel
theorem i_74_82 : gI 74 82 = some (.bipush 8, 2) := by decide +kernel
theorem i_74_84 : gI 74 84 = some (.if_icmp .ge 65, 3) := by decide +kernel
theorem i_74_87 : gI 74 87 = some (.aload_n 1, 1) := by decide +kernel
theorem i_74_88 : gI 74 88 = some (.iconst 1, 1) := by decide +kernel
theorem i_74_89 : gI 74 89 = some (.aload_n 0, 1) := by decide +kernel
theorem i_74_90 : gI 74 90 = some (.iconst 3, 1) := by decide +kernel
theorem i_74_91 : gI 74 91 = some (.iload_n 3, 1) := by decide +kernel
theorem i_74_92 : gI 74 92 = some (.iconst 4, 1) := by decide +kernel
theorem i_74_93 : gI 74 93 = some (.irem, 1) := by decide +kernel
theorem i_74_94 : gI 74 94 = some (.iadd, 1) := by decide +kernel
theorem i_74_95 : gI 74 95 = some (.invokestatic 12, 3) := by decide +kernel
theorem i_74_98 : gI 74 98 = some (.iload_n 3, 1) := by decide +kernel
theorem i_74_99 : gI 74 99 = some (.ishr, 1) := by decide +kernel
theorem i_74_100 : gI 74 100 = some (.bipush 60, 2) := by decide +kernel
theorem i_74_102 : gI 74 102 = some (.invokestatic 18, 3) := by decide +kernel
theorem i_74_105 : gI 74 105 = some (.iadd, 1) := by decide +kernel
theorem i_74_106 : gI 74 106 = some (.aload_n 0, 1) := by decide +kernel
theorem i_74_107 : gI 74 107 = some (.iconst 4, 1) := by decide +kernel
theorem i_74_108 : gI 74 108 = some (.iload_n 3, 1) := by decide +kernel
theorem i_74_109 : gI 74 109 = some (.iconst 3, 1) := by decide +kernel
theorem i_74_110 : gI 74 110 = some (.irem, 1) := by decide +kernel
theorem i_74_111 : gI 74 111 = some (.iadd, 1) := by decide +kernel
theorem i_74_112 : gI 74 112 = some (.invokestatic 12, 3) := by decide +kernel
theorem i_74_115 : gI 74 115 = some (.iload_n 3, 1) := by decide +kernel
theorem i_74_116 : gI 74 116 = some (.ishr, 1) := by decide +kernel
theorem i_74_117 : gI 74 117 = some (.bipush 61, 2) := by decide +kernel
theorem i_74_119 : gI 74 119 = some (.invokestatic 18, 3) := by decide +kernel
theorem i_74_122 : gI 74 122 = some (.aload_n 0, 1) := by decide +kernel
theorem i_74_123 : gI 74 123 = some (.bipush 6, 2) := by decide +kernel
theorem i_74_125 : gI 74 125 = some (.invokestatic 12, 3) := by decide +kernel
theorem i_74_128 : gI 74 128 = some (.iload_n 3, 1) := by decide +kernel
theorem i_74_129 : gI 74 129 = some (.ishr, 1) := by decide +kernel
theorem i_74_130 : gI 74 130 = some (.iconst 3, 1) := by decide +kernel
theorem i_74_131 : gI 74 131 = some (.invokestatic 18, 3) := by decide +kernel
theorem i_74_134 : gI 74 134 = some (.invokevirtual 26, 3) := by decide +kernel
theorem v_74_26 : gIv 74 26 = some (9, 3, 1, 5, 395, 396, 397, 0, none) := jv_eq (by decide +kernel)
theorem i_74_137 : gI 74 137 = some (.iload_n 3, 1) := by decide +kernel
theorem i_74_138 : gI 74 138 = some (.if_icmp .eq 5, 3) := by decide +kernel
theorem i_74_141 : gI 74 141 = some (.iconst 0, 1) := by decide +kernel
theorem i_74_142 : gI 74 142 = some (.ireturn, 1) := by decide +kernel
theorem i_74_143 : gI 74 143 = some (.iinc 3 1, 3) := by decide +kernel
theorem i_74_146 : gI 74 146 = some (.goto (-65), 3) := by decide +kernel
theorem i_74_149 : gI 74 149 = some (.iconst 0, 1) := by decide +kernel
theorem i_74_150 : gI 74 150 = some (.istore_n 3, 1) := by decide +kernel
theorem i_74_151 : gI 74 151 = some (.iload_n 3, 1) := by decide +kernel
theorem i_74_152 : gI 74 152 = some (.iconst 4, 1) := by decide +kernel
theorem i_74_153 : gI 74 153 = some (.if_icmp .ge 31, 3) := by decide +kernel
theorem i_74_156 : gI 74 156 = some (.aload_n 1, 1) := by decide +kernel
theorem i_74_157 : gI 74 157 = some (.iload_n 3, 1) := by decide +kernel
theorem i_74_158 : gI 74 158 = some (.iconst 2, 1) := by decide +kernel
theorem i_74_159 : gI 74 159 = some (.if_icmp .ge 9, 3) := by decide +kernel
theorem i_74_162 : gI 74 162 = some (.iload_n 3, 1) := by decide +kernel
theorem i_74_163 : gI 74 163 = some (.iconst 1, 1) := by decide +kernel
theorem i_74_164 : gI 74 164 = some (.iadd, 1) := by decide +kernel
theorem i_74_165 : gI 74 165 = some (.goto 4, 3) := by decide +kernel
theorem i_74_168 : gI 74 168 = some (.iconst (-1), 1) := by decide +kernel
theorem i_74_169 : gI 74 169 = some (.invokevirtual 30, 3) := by decide +kernel
theorem v_74_30 : gIv 74 30 = some (10, 1, 1, 5, 403, 404, 405, 0, none) := jv_eq (by decide +kernel)
theorem i_74_172 : gI 74 172 = some (.iload_n 3, 1) := by decide +kernel
theorem i_74_173 : gI 74 173 = some (.if_icmp .eq 5, 3) := by decide +kernel
theorem i_74_176 : gI 74 176 = some (.iconst 0, 1) := by decide +kernel
theorem i_74_177 : gI 74 177 = some (.ireturn, 1) := by decide +kernel
theorem i_74_178 : gI 74 178 = some (.iinc 3 1, 3) := by decide +kernel
theorem i_74_181 : gI 74 181 = some (.goto (-30), 3) := by decide +kernel
theorem i_74_184 : gI 74 184 = some (.iconst 0, 1) := by decide +kernel
theorem i_74_185 : gI 74 185 = some (.istore_n 3, 1) := by decide +kernel
theorem i_74_186 : gI 74 186 = some (.iconst 0, 1) := by decide +kernel
theorem i_74_187 : gI 74 187 = some (.istore 4, 2) := by decide +kernel
theorem i_74_189 : gI 74 189 = some (.iload 4, 2) := by decide +kernel
theorem i_74_191 : gI 74 191 = some (.bipush 80, 2) := by decide +kernel
theorem i_74_193 : gI 74 193 = some (.if_icmp .ge 893, 3) := by decide +kernel
theorem i_74_196 : gI 74 196 = some (.aload_n 0, 1) := by decide +kernel
theorem i_74_197 : gI 74 197 = some (.bipush 7, 2) := by decide +kernel
theorem i_74_199 : gI 74 199 = some (.iload 4, 2) := by decide +kernel
theorem i_74_201 : gI 74 201 = some (.bipush 23, 2) := by decide +kernel
theorem i_74_203 : gI 74 203 = some (.irem, 1) := by decide +kernel
theorem i_74_204 : gI 74 204 = some (.iadd, 1) := by decide +kernel
theorem i_74_205 : gI 74 205 = some (.invokestatic 12, 3) := by decide +kernel
theorem i_74_208 : gI 74 208 = some (.iload 4, 2) := by decide +kernel
theorem i_74_210 : gI 74 210 = some (.bipush 23, 2) := by decide +kernel
theorem i_74_212 : gI 74 212 = some (.idiv, 1) := by decide +kernel
theorem i_74_213 : gI 74 213 = some (.iconst 4, 1) := by decide +kernel
theorem i_74_214 : gI 74 214 = some (.imul, 1) := by decide +kernel
theorem i_74_215 : gI 74 215 = some (.ishr, 1) := by decide +kernel
theorem i_74_216 : gI 74 216 = some (.istore 5, 2) := by decide +kernel
theorem i_74_218 : gI 74 218 = some (.iload 5, 2) := by decide +kernel
theorem i_74_220 : gI 74 220 = some (.iconst 4, 1) := by decide +kernel
theorem i_74_221 : gI 74 221 = some (.ishr, 1) := by decide +kernel
theorem i_74_222 : gI 74 222 = some (.iload_n 2, 1) := by decide +kernel
theorem i_74_223 : gI 74 223 = some (.invokestatic 18, 3) := by decide +kernel
theorem i_74_226 : gI 74 226 = some (.istore 6, 2) := by decide +kernel
theorem i_74_228 : gI 74 228 = some (.iload 5, 2) := by decide +kernel
theorem i_74_230 : gI 74 230 = some (.iconst 3, 1) := by decide +kernel
theorem i_74_231 : gI 74 231 = some (.ishr, 1) := by decide +kernel
theorem i_74_232 : gI 74 232 = some (.bipush 8, 2) := by decide +kernel
theorem i_74_234 : gI 74 234 = some (.invokestatic 18, 3) := by decide +kernel
theorem i_74_237 : gI 74 237 = some (.istore 7, 2) := by decide +kernel
theorem i_74_239 : gI 74 239 = some (.iload 5, 2) := by decide +kernel
theorem i_74_241 : gI 74 241 = some (.iconst 5, 1) := by decide +kernel
theorem i_74_242 : gI 74 242 = some (.ishr, 1) := by decide +kernel
theorem i_74_243 : gI 74 243 = some (.iconst 4, 1) := by decide +kernel
theorem i_74_244 : gI 74 244 = some (.invokestatic 18, 3) := by decide +kernel
theorem i_74_247 : gI 74 247 = some (.istore 8, 2) := by decide +kernel
theorem i_74_249 : gI 74 249 = some (.aload_n 1, 1) := by decide +kernel
theorem i_74_250 : gI 74 250 = some (.iconst 5, 1) := by decide +kernel
theorem i_74_251 : gI 74 251 = some (.invokevirtual 34, 3) := by decide +kernel
theorem v_74_34 : gIv 74 34 = some (15, 1, 1, 5, 548, 549, 550, 0, none) := jv_eq (by decide +kernel)
theorem i_74_254 : gI 74 254 = some (.ifCond .lt 7, 3) := by decide +kernel
theorem i_74_257 : gI 74 257 = some (.iconst 1, 1) := by decide +kernel
theorem i_74_258 : gI 74 258 = some (.goto 4, 3) := by decide +kernel
theorem i_74_261 : gI 74 261 = some (.iconst 0, 1) := by decide +kernel
theorem i_74_262 : gI 74 262 = some (.istore 9, 2) := by decide +kernel
theorem i_74_264 : gI 74 264 = some (.iload 9, 2) := by decide +kernel
theorem i_74_266 : gI 74 266 = some (.ifCond .ne 17, 3) := by decide +kernel
theorem i_74_269 : gI 74 269 = some (.aload_n 1, 1) := by decide +kernel
theorem i_74_270 : gI 74 270 = some (.iload 6, 2) := by decide +kernel
theorem i_74_272 : gI 74 272 = some (.iconst 2, 1) := by decide +kernel
theorem i_74_273 : gI 74 273 = some (.invokevirtual 37, 3) := by decide +kernel
theorem v_74_37 : gIv 74 37 = some (18, 2, 1, 5, 526, 527, 528, 0, none) := jv_eq (by decide +kernel)
theorem i_74_276 : gI 74 276 = some (.ifCond .ne 7, 3) := by decide +kernel
theorem i_74_279 : gI 74 279 = some (.iconst 1, 1) := by decide +kernel
theorem i_74_280 : gI 74 280 = some (.goto 4, 3) := by decide +kernel
theorem i_74_283 : gI 74 283 = some (.iconst 0, 1) := by decide +kernel
theorem i_74_284 : gI 74 284 = some (.istore 10, 2) := by decide +kernel
theorem i_74_286 : gI 74 286 = some (.aload_n 1, 1) := by decide +kernel
theorem i_74_287 : gI 74 287 = some (.iload 7, 2) := by decide +kernel
theorem i_74_289 : gI 74 289 = some (.iconst 3, 1) := by decide +kernel
theorem i_74_290 : gI 74 290 = some (.invokevirtual 40, 3) := by decide +kernel
theorem v_74_40 : gIv 74 40 = some (20, 2, 1, 5, 531, 532, 533, 0, none) := jv_eq (by decide +kernel)
theorem i_74_293 : gI 74 293 = some (.istore 11, 2) := by decide +kernel
theorem i_74_295 : gI 74 295 = some (.iload 5, 2) := by decide +kernel
theorem i_74_297 : gI 74 297 = some (.bipush 18, 2) := by decide +kernel
theorem i_74_299 : gI 74 299 = some (.invokestatic 18, 3) := by decide +kernel
theorem i_74_302 : gI 74 302 = some (.tableswitch 720 0 14 #[74, 74, 74, 143, 187, 255, 255, 255, 368, 386, 452, 452, 520, 595, 643], 74) := by decide +kernel
theorem i_74_376 : gI 74 376 = some (.aload_n 1, 1) := by decide +kernel
theorem i_74_377 : gI 74 377 = some (.iload 6, 2) := by decide +kernel
theorem i_74_379 : gI 74 379 = some (.iconst 4, 1) := by decide +kernel
theorem i_74_380 : gI 74 380 = some (.invokevirtual 37, 3) := by decide +kernel
theorem i_74_383 : gI 74 383 = some (.aload_n 1, 1) := by decide +kernel
theorem i_74_384 : gI 74 384 = some (.iload 7, 2) := by decide +kernel
theorem i_74_386 : gI 74 386 = some (.iconst 0, 1) := by decide +kernel
theorem i_74_387 : gI 74 387 = some (.invokevirtual 40, 3) := by decide +kernel
theorem i_74_390 : gI 74 390 = some (.iadd, 1) := by decide +kernel
theorem i_74_391 : gI 74 391 = some (.istore 12, 2) := by decide +kernel
theorem i_74_393 : gI 74 393 = some (.iload 10, 2) := by decide +kernel
theorem i_74_395 : gI 74 395 = some (.ifCond .eq 675, 3) := by decide +kernel
theorem i_74_398 : gI 74 398 = some (.iload 11, 2) := by decide +kernel
theorem i_74_400 : gI 74 400 = some (.ifCond .ge 670, 3) := by decide +kernel
theorem i_74_403 : gI 74 403 = some (.iload 12, 2) := by decide +kernel
theorem i_74_405 : gI 74 405 = some (.aload_n 1, 1) := by decide +kernel
theorem i_74_406 : gI 74 406 = some (.iload 6, 2) := by decide +kernel
theorem i_74_408 : gI 74 408 = some (.iconst 1, 1) := by decide +kernel
theorem i_74_409 : gI 74 409 = some (.invokevirtual 37, 3) := by decide +kernel
theorem i_74_412 : gI 74 412 = some (.if_icmp .le 6, 3) := by decide +kernel
theorem i_74_415 : gI 74 415 = some (.goto 655, 3) := by decide +kernel
theorem i_74_418 : gI 74 418 = some (.aload_n 1, 1) := by decide +kernel
theorem i_74_419 : gI 74 419 = some (.iload 7, 2) := by decide +kernel
theorem i_74_421 : gI 74 421 = some (.iload 6, 2) := by decide +kernel
theorem i_74_423 : gI 74 423 = some (.invokevirtual 43, 3) := by decide +kernel
theorem v_74_43 : gIv 74 43 = some (23, 2, 1, 5, 438, 439, 440, 0, none) := jv_eq (by decide +kernel)
theorem i_74_426 : gI 74 426 = some (.iload 12, 2) := by decide +kernel
theorem i_74_428 : gI 74 428 = some (.if_icmp .ne 15, 3) := by decide +kernel
theorem i_74_431 : gI 74 431 = some (.aload_n 1, 1) := by decide +kernel
theorem i_74_432 : gI 74 432 = some (.iload 7, 2) := by decide +kernel
theorem i_74_434 : gI 74 434 = some (.iconst 3, 1) := by decide +kernel
theorem i_74_435 : gI 74 435 = some (.invokevirtual 40, 3) := by decide +kernel
theorem i_74_438 : gI 74 438 = some (.iload 6, 2) := by decide +kernel
theorem i_74_440 : gI 74 440 = some (.if_icmp .eq 630, 3) := by decide +kernel
theorem i_74_443 : gI 74 443 = some (.iconst 0, 1) := by decide +kernel
theorem i_74_444 : gI 74 444 = some (.ireturn, 1) := by decide +kernel
theorem i_74_445 : gI 74 445 = some (.iload 9, 2) := by decide +kernel
theorem i_74_447 : gI 74 447 = some (.ifCond .ne 623, 3) := by decide +kernel
theorem i_74_450 : gI 74 450 = some (.iload 11, 2) := by decide +kernel
theorem i_74_452 : gI 74 452 = some (.ifCond .lt 618, 3) := by decide +kernel
theorem i_74_455 : gI 74 455 = some (.aload_n 1, 1) := by decide +kernel
theorem i_74_456 : gI 74 456 = some (.iload 11, 2) := by decide +kernel
theorem i_74_458 : gI 74 458 = some (.iconst 2, 1) := by decide +kernel
theorem i_74_459 : gI 74 459 = some (.invokevirtual 37, 3) := by decide +kernel
theorem i_74_462 : gI 74 462 = some (.ifCond .ne 608, 3) := by decide +kernel
theorem i_74_465 : gI 74 465 = some (.aload_n 1, 1) := by decide +kernel
theorem i_74_466 : gI 74 466 = some (.iload 7, 2) := by decide +kernel
theorem i_74_468 : gI 74 468 = some (.invokevirtual 46, 3) := by decide +kernel
theorem v_74_46 : gIv 74 46 = some (24, 1, 1, 5, 464, 465, 466, 0, none) := jv_eq (by decide +kernel)
theorem i_74_471 : gI 74 471 = some (.iload 11, 2) := by decide +kernel
theorem i_74_473 : gI 74 473 = some (.if_icmp .ne 14, 3) := by decide +kernel
theorem i_74_476 : gI 74 476 = some (.aload_n 1, 1) := by decide +kernel
theorem i_74_477 : gI 74 477 = some (.iload 7, 2) := by decide +kernel
theorem i_74_479 : gI 74 479 = some (.iconst 3, 1) := by decide +kernel
theorem i_74_480 : gI 74 480 = some (.invokevirtual 40, 3) := by decide +kernel
theorem i_74_483 : gI 74 483 = some (.iconst (-1), 1) := by decide +kernel
theorem i_74_484 : gI 74 484 = some (.if_icmp .eq 586, 3) := by decide +kernel
theorem i_74_487 : gI 74 487 = some (.iconst 0, 1) := by decide +kernel
theorem i_74_488 : gI 74 488 = some (.ireturn, 1) := by decide +kernel
theorem i_74_489 : gI 74 489 = some (.iload 10, 2) := by decide +kernel
theorem i_74_491 : gI 74 491 = some (.ifCond .eq 579, 3) := by decide +kernel
theorem i_74_494 : gI 74 494 = some (.aload_n 1, 1) := by decide +kernel
theorem i_74_495 : gI 74 495 = some (.iload 6, 2) := by decide +kernel
theorem i_74_497 : gI 74 497 = some (.iconst 0, 1) := by decide +kernel
theorem i_74_498 : gI 74 498 = some (.invokevirtual 37, 3) := by decide +kernel
theorem i_74_501 : gI 74 501 = some (.iconst 1, 1) := by decide +kernel
theorem i_74_502 : gI 74 502 = some (.if_icmp .ne 6, 3) := by decide +kernel
theorem i_74_505 : gI 74 505 = some (.goto 565, 3) := by decide +kernel
theorem i_74_508 : gI 74 508 = some (.iconst 0, 1) := by decide +kernel
theorem i_74_509 : gI 74 509 = some (.aload_n 1, 1) := by decide +kernel
theorem i_74_510 : gI 74 510 = some (.iload 6, 2) := by decide +kernel
theorem i_74_512 : gI 74 512 = some (.iconst 4, 1) := by decide +kernel
theorem i_74_513 : gI 74 513 = some (.invokevirtual 37, 3) := by decide +kernel
theorem i_74_516 : gI 74 516 = some (.iload 5, 2) := by decide +kernel
theorem i_74_518 : gI 74 518 = some (.iconst 2, 1) := by decide +kernel
theorem i_74_519 : gI 74 519 = some (.ishr, 1) := by decide +kernel
theorem i_74_520 : gI 74 520 = some (.bipush 80, 2) := by decide +kernel
theorem i_74_522 : gI 74 522 = some (.invokestatic 18, 3) := by decide +kernel
theorem i_74_525 : gI 74 525 = some (.iadd, 1) := by decide +kernel
theorem i_74_526 : gI 74 526 = some (.bipush 40, 2) := by decide +kernel
theorem i_74_528 : gI 74 528 = some (.isub, 1) := by decide +kernel
theorem i_74_529 : gI 74 529 = some (.invokestatic 49, 3) := by decide +kernel
theorem v_74_49 : gIv 74 49 = some (0, 2, 101, 0, 726, 462, 463, 49, none) := jv_eq (by decide +kernel)
theorem i_74_532 : gI 74 532 = some (.istore 12, 2) := by decide +kernel
theorem i_74_534 : gI 74 534 = some (.aload_n 1, 1) := by decide +kernel
theorem i_74_535 : gI 74 535 = some (.iload 6, 2) := by decide +kernel
theorem i_74_537 : gI 74 537 = some (.iload 12, 2) := by decide +kernel
theorem i_74_539 : gI 74 539 = some (.invokevirtual 54, 3) := by decide +kernel
theorem v_74_54 : gIv 74 54 = some (25, 2, 1, 5, 469, 470, 471, 0, none) := jv_eq (by decide +kernel)
theorem i_74_542 : gI 74 542 = some (.aload_n 1, 1) := by decide +kernel
theorem i_74_543 : gI 74 543 = some (.iload 6, 2) := by decide +kernel
theorem i_74_545 : gI 74 545 = some (.iconst 4, 1) := by decide +kernel
theorem i_74_546 : gI 74 546 = some (.invokevirtual 37, 3) := by decide +kernel
theorem i_74_549 : gI 74 549 = some (.iload 12, 2) := by decide +kernel
theorem i_74_551 : gI 74 551 = some (.isub, 1) := by decide +kernel
theorem i_74_552 : gI 74 552 = some (.if_icmp .eq 518, 3) := by decide +kernel
theorem i_74_555 : gI 74 555 = some (.iconst 0, 1) := by decide +kernel
theorem i_74_556 : gI 74 556 = some (.ireturn, 1) := by decide +kernel
theorem i_74_557 : gI 74 557 = some (.aload_n 1, 1) := by decide +kernel
theorem i_74_558 : gI 74 558 = some (.iload 8, 2) := by decide +kernel
theorem i_74_560 : gI 74 560 = some (.invokestatic 57, 3) := by decide +kernel
theorem v_74_57 : gIv 74 57 = some (28, 2, 6, 0, 678, 679, 0, 0, none) := jv_eq (by decide +kernel)
theorem i_74_563 : gI 74 563 = some (.istore 12, 2) := by decide +kernel
theorem i_74_565 : gI 74 565 = some (.aload_n 1, 1) := by decide +kernel
theorem i_74_566 : gI 74 566 = some (.iload 8, 2) := by decide +kernel
theorem i_74_568 : gI 74 568 = some (.iload 6, 2) := by decide +kernel
theorem i_74_570 : gI 74 570 = some (.iload 5, 2) := by decide +kernel
theorem i_74_572 : gI 74 572 = some (.iconst 2, 1) := by decide +kernel
theorem i_74_573 : gI 74 573 = some (.ishr, 1) := by decide +kernel
theorem i_74_574 : gI 74 574 = some (.bipush 121, 2) := by decide +kernel
theorem i_74_576 : gI 74 576 = some (.invokestatic 18, 3) := by decide +kernel
theorem i_74_579 : gI 74 579 = some (.iconst 1, 1) := by decide +kernel
theorem i_74_580 : gI 74 580 = some (.iload 5, 2) := by decide +kernel
theorem i_74_582 : gI 74 582 = some (.iconst 3, 1) := by decide +kernel
theorem i_74_583 : gI 74 583 = some (.ishr, 1) := by decide +kernel
theorem i_74_584 : gI 74 584 = some (.bipush 6, 2) := by decide +kernel
theorem i_74_586 : gI 74 586 = some (.invokestatic 18, 3) := by decide +kernel
theorem i_74_589 : gI 74 589 = some (.iadd, 1) := by decide +kernel
theorem i_74_590 : gI 74 590 = some (.iload 5, 2) := by decide +kernel
theorem i_74_592 : gI 74 592 = some (.bipush 6, 2) := by decide +kernel
theorem i_74_594 : gI 74 594 = some (.ishr, 1) := by decide +kernel
theorem i_74_595 : gI 74 595 = some (.bipush 8, 2) := by decide +kernel
theorem i_74_597 : gI 74 597 = some (.invokestatic 18, 3) := by decide +kernel
theorem i_74_600 : gI 74 600 = some (.invokestatic 61, 3) := by decide +kernel
theorem v_74_61 : gIv 74 61 = some (31, 6, 6, 0, 682, 683, 0, 0, none) := jv_eq (by decide +kernel)
theorem i_74_603 : gI 74 603 = some (.istore 13, 2) := by decide +kernel
theorem i_74_605 : gI 74 605 = some (.iload 13, 2) := by decide +kernel
theorem i_74_607 : gI 74 607 = some (.ifCond .lt 50, 3) := by decide +kernel
theorem i_74_610 : gI 74 610 = some (.iload 13, 2) := by decide +kernel
theorem i_74_612 : gI 74 612 = some (.iload 12, 2) := by decide +kernel
theorem i_74_614 : gI 74 614 = some (.if_icmp .ne 54, 3) := by decide +kernel
theorem i_74_617 : gI 74 617 = some (.aload_n 1, 1) := by decide +kernel
theorem i_74_618 : gI 74 618 = some (.iload 8, 2) := by decide +kernel
theorem i_74_620 : gI 74 620 = some (.iload 13, 2) := by decide +kernel
theorem i_74_622 : gI 74 622 = some (.iconst 0, 1) := by decide +kernel
theorem i_74_623 : gI 74 623 = some (.invokevirtual 65, 3) := by decide +kernel
theorem v_74_65 : gIv 74 65 = some (27, 3, 1, 5, 536, 537, 538, 0, none) := jv_eq (by decide +kernel)
theorem i_74_626 : gI 74 626 = some (.iload 6, 2) := by decide +kernel
theorem i_74_628 : gI 74 628 = some (.if_icmp .ne 40, 3) := by decide +kernel
theorem i_74_631 : gI 74 631 = some (.aload_n 1, 1) := by decide +kernel
theorem i_74_632 : gI 74 632 = some (.iload 8, 2) := by decide +kernel
theorem i_74_634 : gI 74 634 = some (.iload 13, 2) := by decide +kernel
theorem i_74_636 : gI 74 636 = some (.iconst 4, 1) := by decide +kernel
theorem i_74_637 : gI 74 637 = some (.invokevirtual 65, 3) := by decide +kernel
theorem i_74_640 : gI 74 640 = some (.iconst (-1), 1) := by decide +kernel
theorem i_74_641 : gI 74 641 = some (.if_icmp .ne 27, 3) := by decide +kernel
theorem i_74_644 : gI 74 644 = some (.aload_n 1, 1) := by decide +kernel
theorem i_74_645 : gI 74 645 = some (.iconst 5, 1) := by decide +kernel
theorem i_74_646 : gI 74 646 = some (.invokevirtual 34, 3) := by decide +kernel
theorem i_74_649 : gI 74 649 = some (.iload 8, 2) := by decide +kernel
theorem i_74_651 : gI 74 651 = some (.if_icmp .ne 419, 3) := by decide +kernel
theorem i_74_654 : gI 74 654 = some (.goto 14, 3) := by decide +kernel
theorem i_74_657 : gI 74 657 = some (.aload_n 1, 1) := by decide +kernel
theorem i_74_658 : gI 74 658 = some (.iload 8, 2) := by decide +kernel
theorem i_74_660 : gI 74 660 = some (.invokestatic 57, 3) := by decide +kernel
theorem i_74_663 : gI 74 663 = some (.iload 12, 2) := by decide +kernel
theorem i_74_665 : gI 74 665 = some (.if_icmp .eq 405, 3) := by decide +kernel
theorem i_74_668 : gI 74 668 = some (.iconst 0, 1) := by decide +kernel
theorem i_74_669 : gI 74 669 = some (.ireturn, 1) := by decide +kernel
theorem i_74_670 : gI 74 670 = some (.aload_n 1, 1) := by decide +kernel
theorem i_74_671 : gI 74 671 = some (.iload 5, 2) := by decide +kernel
theorem i_74_673 : gI 74 673 = some (.iconst 4, 1) := by decide +kernel
theorem i_74_674 : gI 74 674 = some (.ishr, 1) := by decide +kernel
theorem i_74_675 : gI 74 675 = some (.bipush 6, 2) := by decide +kernel
theorem i_74_677 : gI 74 677 = some (.invokestatic 18, 3) := by decide +kernel
theorem i_74_680 : gI 74 680 = some (.invokevirtual 68, 3) := by decide +kernel
theorem v_74_68 : gIv 74 68 = some (32, 1, 1, 5, 409, 410, 411, 0, none) := jv_eq (by decide +kernel)
theorem i_74_683 : gI 74 683 = some (.ifCond .ge 387, 3) := by decide +kernel
theorem i_74_686 : gI 74 686 = some (.iconst 0, 1) := by decide +kernel
theorem i_74_687 : gI 74 687 = some (.ireturn, 1) := by decide +kernel
theorem i_74_688 : gI 74 688 = some (.aload_n 1, 1) := by decide +kernel
theorem i_74_689 : gI 74 689 = some (.iload 6, 2) := by decide +kernel
theorem i_74_691 : gI 74 691 = some (.bipush 8, 2) := by decide +kernel
theorem i_74_693 : gI 74 693 = some (.invokevirtual 37, 3) := by decide +kernel
theorem i_74_696 : gI 74 696 = some (.iconst 1, 1) := by decide +kernel
theorem i_74_697 : gI 74 697 = some (.if_icmp .ne 7, 3) := by decide +kernel
theorem i_74_700 : gI 74 700 = some (.iconst 1, 1) := by decide +kernel
theorem i_74_701 : gI 74 701 = some (.goto 4, 3) := by decide +kernel
theorem i_74_704 : gI 74 704 = some (.iconst 0, 1) := by decide +kernel
theorem i_74_705 : gI 74 705 = some (.istore 12, 2) := by decide +kernel
theorem i_74_707 : gI 74 707 = some (.aload_n 1, 1) := by decide +kernel
theorem i_74_708 : gI 74 708 = some (.iload 6, 2) := by decide +kernel
theorem i_74_710 : gI 74 710 = some (.iload 5, 2) := by decide +kernel
theorem i_74_712 : gI 74 712 = some (.bipush 6, 2) := by decide +kernel
theorem i_74_714 : gI 74 714 = some (.ishr, 1) := by decide +kernel
theorem i_74_715 : gI 74 715 = some (.iconst 2, 1) := by decide +kernel
theorem i_74_716 : gI 74 716 = some (.invokestatic 18, 3) := by decide +kernel
theorem i_74_719 : gI 74 719 = some (.ifCond .ne 7, 3) := by decide +kernel
theorem i_74_722 : gI 74 722 = some (.iconst 1, 1) := by decide +kernel
theorem i_74_723 : gI 74 723 = some (.goto 4, 3) := by decide +kernel
theorem i_74_726 : gI 74 726 = some (.iconst 0, 1) := by decide +kernel
theorem i_74_727 : gI 74 727 = some (.iload 5, 2) := by decide +kernel
theorem i_74_729 : gI 74 729 = some (.bipush 7, 2) := by decide +kernel
theorem i_74_731 : gI 74 731 = some (.ishr, 1) := by decide +kernel
theorem i_74_732 : gI 74 732 = some (.iconst 3, 1) := by decide +kernel
theorem i_74_733 : gI 74 733 = some (.invokestatic 18, 3) := by decide +kernel
theorem i_74_736 : gI 74 736 = some (.ifCond .le 7, 3) := by decide +kernel
theorem i_74_739 : gI 74 739 = some (.iconst 1, 1) := by decide +kernel
theorem i_74_740 : gI 74 740 = some (.goto 4, 3) := by decide +kernel
theorem i_74_743 : gI 74 743 = some (.iconst 0, 1) := by decide +kernel
theorem i_74_744 : gI 74 744 = some (.invokevirtual 71, 3) := by decide +kernel
theorem v_74_71 : gIv 74 71 = some (33, 3, 1, 5, 414, 415, 416, 0, none) := jv_eq (by decide +kernel)
theorem i_74_747 : gI 74 747 = some (.iload 12, 2) := by decide +kernel
theorem i_74_749 : gI 74 749 = some (.if_icmp .eq 321, 3) := by decide +kernel
theorem i_74_752 : gI 74 752 = some (.iconst 0, 1) := by decide +kernel
theorem i_74_753 : gI 74 753 = some (.ireturn, 1) := by decide +kernel
theorem i_74_754 : gI 74 754 = some (.iload 9, 2) := by decide +kernel
theorem i_74_756 : gI 74 756 = some (.ifCond .eq 6, 3) := by decide +kernel
theorem i_74_759 : gI 74 759 = some (.goto 311, 3) := by decide +kernel
theorem i_74_762 : gI 74 762 = some (.aload_n 1, 1) := by decide +kernel
theorem i_74_763 : gI 74 763 = some (.iload 8, 2) := by decide +kernel
theorem i_74_765 : gI 74 765 = some (.invokevirtual 74, 3) := by decide +kernel
theorem v_74_74 : gIv 74 74 = some (36, 1, 1, 5, 479, 480, 481, 0, none) := jv_eq (by decide +kernel)
theorem i_74_768 : gI 74 768 = some (.aload_n 1, 1) := by decide +kernel
theorem i_74_769 : gI 74 769 = some (.iload 8, 2) := by decide +kernel
theorem i_74_771 : gI 74 771 = some (.invokestatic 57, 3) := by decide +kernel
theorem i_74_774 : gI 74 774 = some (.if_icmp .ne 46, 3) := by decide +kernel
theorem i_74_777 : gI 74 777 = some (.aload_n 1, 1) := by decide +kernel
theorem i_74_778 : gI 74 778 = some (.iconst 5, 1) := by decide +kernel
theorem i_74_779 : gI 74 779 = some (.invokevirtual 34, 3) := by decide +kernel
theorem i_74_782 : gI 74 782 = some (.iload 8, 2) := by decide +kernel
theorem i_74_784 : gI 74 784 = some (.if_icmp .ne 36, 3) := by decide +kernel
theorem i_74_787 : gI 74 787 = some (.aload_n 1, 1) := by decide +kernel
theorem i_74_788 : gI 74 788 = some (.bipush 7, 2) := by decide +kernel
theorem i_74_790 : gI 74 790 = some (.invokevirtual 34, 3) := by decide +kernel
theorem i_74_793 : gI 74 793 = some (.ifCond .ne 27, 3) := by decide +kernel
theorem i_74_796 : gI 74 796 = some (.aload_n 1, 1) := by decide +kernel
theorem i_74_797 : gI 74 797 = some (.bipush 8, 2) := by decide +kernel
theorem i_74_799 : gI 74 799 = some (.invokevirtual 34, 3) := by decide +kernel
theorem i_74_802 : gI 74 802 = some (.aload_n 1, 1) := by decide +kernel
theorem i_74_803 : gI 74 803 = some (.iload 8, 2) := by decide +kernel
theorem i_74_805 : gI 74 805 = some (.invokestatic 57, 3) := by decide +kernel
theorem i_74_808 : gI 74 808 = some (.if_icmp .ne 12, 3) := by decide +kernel
theorem i_74_811 : gI 74 811 = some (.aload_n 1, 1) := by decide +kernel
theorem i_74_812 : gI 74 812 = some (.bipush 6, 2) := by decide +kernel
theorem i_74_814 : gI 74 814 = some (.invokevirtual 34, 3) := by decide +kernel
theorem i_74_817 : gI 74 817 = some (.ifCond .eq 253, 3) := by decide +kernel
theorem i_74_820 : gI 74 820 = some (.iconst 0, 1) := by decide +kernel
theorem i_74_821 : gI 74 821 = some (.ireturn, 1) := by decide +kernel
theorem i_74_822 : gI 74 822 = some (.iload 9, 2) := by decide +kernel
theorem i_74_824 : gI 74 824 = some (.ifCond .ne 6, 3) := by decide +kernel
theorem i_74_827 : gI 74 827 = some (.goto 243, 3) := by decide +kernel
theorem i_74_830 : gI 74 830 = some (.aload_n 1, 1) := by decide +kernel
theorem i_74_831 : gI 74 831 = some (.bipush 6, 2) := by decide +kernel
theorem i_74_833 : gI 74 833 = some (.invokevirtual 34, 3) := by decide +kernel
theorem i_74_836 : gI 74 836 = some (.iconst 1, 1) := by decide +kernel
theorem i_74_837 : gI 74 837 = some (.if_icmp .ne 7, 3) := by decide +kernel
theorem i_74_840 : gI 74 840 = some (.iconst 1, 1) := by decide +kernel
theorem i_74_841 : gI 74 841 = some (.goto 4, 3) := by decide +kernel
theorem i_74_844 : gI 74 844 = some (.iconst 0, 1) := by decide +kernel
theorem i_74_845 : gI 74 845 = some (.istore 12, 2) := by decide +kernel
theorem i_74_847 : gI 74 847 = some (.iload 5, 2) := by decide +kernel
theorem i_74_849 : gI 74 849 = some (.iconst 5, 1) := by decide +kernel
theorem i_74_850 : gI 74 850 = some (.ishr, 1) := by decide +kernel
theorem i_74_851 : gI 74 851 = some (.iconst 2, 1) := by decide +kernel
theorem i_74_852 : gI 74 852 = some (.invokestatic 18, 3) := by decide +kernel
theorem i_74_855 : gI 74 855 = some (.ifCond .ne 7, 3) := by decide +kernel
theorem i_74_858 : gI 74 858 = some (.iconst 1, 1) := by decide +kernel
theorem i_74_859 : gI 74 859 = some (.goto 4, 3) := by decide +kernel
theorem i_74_862 : gI 74 862 = some (.iconst 0, 1) := by decide +kernel
theorem i_74_863 : gI 74 863 = some (.istore 13, 2) := by decide +kernel
theorem i_74_865 : gI 74 865 = some (.aload_n 1, 1) := by decide +kernel
theorem i_74_866 : gI 74 866 = some (.iload 13, 2) := by decide +kernel
theorem i_74_868 : gI 74 868 = some (.invokevirtual 77, 3) := by decide +kernel
theorem v_74_77 : gIv 74 77 = some (38, 1, 1, 5, 497, 498, 499, 0, none) := jv_eq (by decide +kernel)
theorem i_74_871 : gI 74 871 = some (.iload 12, 2) := by decide +kernel
theorem i_74_873 : gI 74 873 = some (.if_icmp .ne 22, 3) := by decide +kernel
theorem i_74_876 : gI 74 876 = some (.aload_n 1, 1) := by decide +kernel
theorem i_74_877 : gI 74 877 = some (.bipush 6, 2) := by decide +kernel
theorem i_74_879 : gI 74 879 = some (.invokevirtual 34, 3) := by decide +kernel
theorem i_74_882 : gI 74 882 = some (.iload 13, 2) := by decide +kernel
theorem i_74_884 : gI 74 884 = some (.ifCond .eq 7, 3) := by decide +kernel
theorem i_74_887 : gI 74 887 = some (.iconst 1, 1) := by decide +kernel
theorem i_74_888 : gI 74 888 = some (.goto 4, 3) := by decide +kernel
theorem i_74_891 : gI 74 891 = some (.iconst 0, 1) := by decide +kernel
theorem i_74_892 : gI 74 892 = some (.if_icmp .eq 178, 3) := by decide +kernel
theorem i_74_895 : gI 74 895 = some (.iconst 0, 1) := by decide +kernel
theorem i_74_896 : gI 74 896 = some (.ireturn, 1) := by decide +kernel
theorem i_74_897 : gI 74 897 = some (.iload 9, 2) := by decide +kernel
theorem i_74_899 : gI 74 899 = some (.ifCond .eq 171, 3) := by decide +kernel
theorem i_74_902 : gI 74 902 = some (.iload 5, 2) := by decide +kernel
theorem i_74_904 : gI 74 904 = some (.bipush 6, 2) := by decide +kernel
theorem i_74_906 : gI 74 906 = some (.ishr, 1) := by decide +kernel
theorem i_74_907 : gI 74 907 = some (.iconst 2, 1) := by decide +kernel
theorem i_74_908 : gI 74 908 = some (.invokestatic 18, 3) := by decide +kernel
theorem i_74_911 : gI 74 911 = some (.ifCond .ne 6, 3) := by decide +kernel
theorem i_74_914 : gI 74 914 = some (.goto 156, 3) := by decide +kernel
theorem i_74_917 : gI 74 917 = some (.aload_n 1, 1) := by decide +kernel
theorem i_74_918 : gI 74 918 = some (.bipush 8, 2) := by decide +kernel
theorem i_74_920 : gI 74 920 = some (.invokevirtual 34, 3) := by decide +kernel
theorem i_74_923 : gI 74 923 = some (.istore 12, 2) := by decide +kernel
theorem i_74_925 : gI 74 925 = some (.aload_n 1, 1) := by decide +kernel
theorem i_74_926 : gI 74 926 = some (.invokevirtual 81, 3) := by decide +kernel
theorem v_74_81 : gIv 74 81 = some (40, 0, 1, 5, 506, 507, 508, 0, none) := jv_eq (by decide +kernel)
theorem i_74_929 : gI 74 929 = some (.iload 12, 2) := by decide +kernel
theorem i_74_931 : gI 74 931 = some (.if_icmp .ne 12, 3) := by decide +kernel
theorem i_74_934 : gI 74 934 = some (.aload_n 1, 1) := by decide +kernel
theorem i_74_935 : gI 74 935 = some (.iconst 5, 1) := by decide +kernel
theorem i_74_936 : gI 74 936 = some (.invokevirtual 34, 3) := by decide +kernel
theorem i_74_939 : gI 74 939 = some (.iconst (-1), 1) := by decide +kernel
theorem i_74_940 : gI 74 940 = some (.if_icmp .eq 130, 3) := by decide +kernel
theorem i_74_943 : gI 74 943 = some (.iconst 0, 1) := by decide +kernel
theorem i_74_944 : gI 74 944 = some (.ireturn, 1) := by decide +kernel
theorem i_74_945 : gI 74 945 = some (.aload_n 1, 1) := by decide +kernel
theorem i_74_946 : gI 74 946 = some (.iload 6, 2) := by decide +kernel
theorem i_74_948 : gI 74 948 = some (.bipush 10, 2) := by decide +kernel
theorem i_74_950 : gI 74 950 = some (.invokevirtual 37, 3) := by decide +kernel
theorem i_74_953 : gI 74 953 = some (.iconst 1, 1) := by decide +kernel
theorem i_74_954 : gI 74 954 = some (.if_icmp .ne 7, 3) := by decide +kernel
theorem i_74_957 : gI 74 957 = some (.iconst 1, 1) := by decide +kernel
theorem i_74_958 : gI 74 958 = some (.goto 4, 3) := by decide +kernel
theorem i_74_961 : gI 74 961 = some (.iconst 0, 1) := by decide +kernel
theorem i_74_962 : gI 74 962 = some (.istore 12, 2) := by decide +kernel
theorem i_74_964 : gI 74 964 = some (.aload_n 1, 1) := by decide +kernel
theorem i_74_965 : gI 74 965 = some (.iload 6, 2) := by decide +kernel
theorem i_74_967 : gI 74 967 = some (.iload 5, 2) := by decide +kernel
theorem i_74_969 : gI 74 969 = some (.bipush 6, 2) := by decide +kernel
theorem i_74_971 : gI 74 971 = some (.ishr, 1) := by decide +kernel
theorem i_74_972 : gI 74 972 = some (.iconst 2, 1) := by decide +kernel
theorem i_74_973 : gI 74 973 = some (.invokestatic 18, 3) := by decide +kernel
theorem i_74_976 : gI 74 976 = some (.ifCond .ne 7, 3) := by decide +kernel
theorem i_74_979 : gI 74 979 = some (.iconst 1, 1) := by decide +kernel
theorem i_74_980 : gI 74 980 = some (.goto 4, 3) := by decide +kernel
theorem i_74_983 : gI 74 983 = some (.iconst 0, 1) := by decide +kernel
theorem i_74_984 : gI 74 984 = some (.invokevirtual 85, 3) := by decide +kernel
theorem v_74_85 : gIv 74 85 = some (41, 2, 1, 5, 522, 523, 524, 0, none) := jv_eq (by decide +kernel)
theorem i_74_987 : gI 74 987 = some (.iload 12, 2) := by decide +kernel
theorem i_74_989 : gI 74 989 = some (.if_icmp .ne 31, 3) := by decide +kernel
theorem i_74_992 : gI 74 992 = some (.aload_n 1, 1) := by decide +kernel
theorem i_74_993 : gI 74 993 = some (.iload 6, 2) := by decide +kernel
theorem i_74_995 : gI 74 995 = some (.bipush 10, 2) := by decide +kernel
theorem i_74_997 : gI 74 997 = some (.invokevirtual 37, 3) := by decide +kernel
theorem i_74_1000 : gI 74 1000 = some (.iload 5, 2) := by decide +kernel
theorem i_74_1002 : gI 74 1002 = some (.bipush 6, 2) := by decide +kernel
theorem i_74_1004 : gI 74 1004 = some (.ishr, 1) := by decide +kernel
theorem i_74_1005 : gI 74 1005 = some (.iconst 2, 1) := by decide +kernel
theorem i_74_1006 : gI 74 1006 = some (.invokestatic 18, 3) := by decide +kernel
theorem i_74_1009 : gI 74 1009 = some (.ifCond .ne 7, 3) := by decide +kernel
theorem i_74_1012 : gI 74 1012 = some (.iconst 1, 1) := by decide +kernel
theorem i_74_1013 : gI 74 1013 = some (.goto 4, 3) := by decide +kernel
theorem i_74_1016 : gI 74 1016 = some (.iconst 0, 1) := by decide +kernel
theorem i_74_1017 : gI 74 1017 = some (.if_icmp .eq 53, 3) := by decide +kernel
theorem i_74_1020 : gI 74 1020 = some (.iconst 0, 1) := by decide +kernel
theorem i_74_1021 : gI 74 1021 = some (.ireturn, 1) := by decide +kernel
theorem i_74_1022 : gI 74 1022 = some (.iconst 1, 1) := by decide +kernel
theorem i_74_1023 : gI 74 1023 = some (.iload 5, 2) := by decide +kernel
theorem i_74_1025 : gI 74 1025 = some (.iconst 3, 1) := by decide +kernel
theorem i_74_1026 : gI 74 1026 = some (.ishr, 1) := by decide +kernel
theorem i_74_1027 : gI 74 1027 = some (.bipush 9, 2) := by decide +kernel
theorem i_74_1029 : gI 74 1029 = some (.invokestatic 18, 3) := by decide +kernel
theorem i_74_1032 : gI 74 1032 = some (.iadd, 1) := by decide +kernel
theorem i_74_1033 : gI 74 1033 = some (.istore 12, 2) := by decide +kernel
theorem i_74_1035 : gI 74 1035 = some (.iconst 0, 1) := by decide +kernel
theorem i_74_1036 : gI 74 1036 = some (.istore 13, 2) := by decide +kernel
theorem i_74_1038 : gI 74 1038 = some (.iload 13, 2) := by decide +kernel
theorem i_74_1040 : gI 74 1040 = some (.iload 12, 2) := by decide +kernel
theorem i_74_1042 : gI 74 1042 = some (.if_icmp .ge 28, 3) := by decide +kernel
theorem i_74_1045 : gI 74 1045 = some (.aload_n 1, 1) := by decide +kernel
theorem i_74_1046 : gI 74 1046 = some (.iload_n 2, 1) := by decide +kernel
theorem i_74_1047 : gI 74 1047 = some (.invokestatic 89, 3) := by decide +kernel
theorem v_74_89 : gIv 74 89 = some (56, 2, 0, 0, 700, 701, 0, 0, none) := jv_eq (by decide +kernel)
theorem i_74_1050 : gI 74 1050 = some (.istore 14, 2) := by decide +kernel
theorem i_74_1052 : gI 74 1052 = some (.iload 14, 2) := by decide +kernel
theorem i_74_1054 : gI 74 1054 = some (.ifCond .ge 5, 3) := by decide +kernel
theorem i_74_1057 : gI 74 1057 = some (.iconst 0, 1) := by decide +kernel
theorem i_74_1058 : gI 74 1058 = some (.ireturn, 1) := by decide +kernel
theorem i_74_1059 : gI 74 1059 = some (.iload_n 3, 1) := by decide +kernel
theorem i_74_1060 : gI 74 1060 = some (.iload 14, 2) := by decide +kernel
theorem i_74_1062 : gI 74 1062 = some (.iadd, 1) := by decide +kernel
theorem i_74_1063 : gI 74 1063 = some (.istore_n 3, 1) := by decide +kernel
theorem i_74_1064 : gI 74 1064 = some (.iinc 13 1, 3) := by decide +kernel
theorem i_74_1067 : gI 74 1067 = some (.goto (-29), 3) := by decide +kernel
theorem i_74_1070 : gI 74 1070 = some (.aload_n 1, 1) := by decide +kernel
theorem i_74_1071 : gI 74 1071 = some (.iload_n 2, 1) := by decide +kernel
theorem i_74_1072 : gI 74 1072 = some (.invokestatic 92, 3) := by decide +kernel
theorem v_74_92 : gIv 74 92 = some (67, 2, 0, 0, 723, 724, 0, 0, none) := jv_eq (by decide +kernel)
theorem i_74_1075 : gI 74 1075 = some (.ifCond .ne 5, 3) := by decide +kernel
theorem i_74_1078 : gI 74 1078 = some (.iconst 0, 1) := by decide +kernel
theorem i_74_1079 : gI 74 1079 = some (.ireturn, 1) := by decide +kernel
theorem i_74_1080 : gI 74 1080 = some (.iinc 4 1, 3) := by decide +kernel
theorem i_74_1083 : gI 74 1083 = some (.goto (-894), 3) := by decide +kernel
theorem i_74_1086 : gI 74 1086 = some (.aload_n 1, 1) := by decide +kernel
theorem i_74_1087 : gI 74 1087 = some (.invokevirtual 96, 3) := by decide +kernel
theorem v_74_96 : gIv 74 96 = some (73, 0, 1, 5, 557, 558, 559, 0, none) := jv_eq (by decide +kernel)
theorem i_74_1090 : gI 74 1090 = some (.lstore 4, 2) := by decide +kernel
theorem i_74_1092 : gI 74 1092 = some (.aload_n 1, 1) := by decide +kernel
theorem i_74_1093 : gI 74 1093 = some (.iload_n 2, 1) := by decide +kernel
theorem i_74_1094 : gI 74 1094 = some (.invokestatic 92, 3) := by decide +kernel
theorem i_74_1097 : gI 74 1097 = some (.ifCond .eq 21, 3) := by decide +kernel
theorem i_74_1100 : gI 74 1100 = some (.iload_n 3, 1) := by decide +kernel
theorem i_74_1101 : gI 74 1101 = some (.ifCond .lt 17, 3) := by decide +kernel
theorem i_74_1104 : gI 74 1104 = some (.aload_n 1, 1) := by decide +kernel
theorem i_74_1105 : gI 74 1105 = some (.invokevirtual 96, 3) := by decide +kernel
theorem i_74_1108 : gI 74 1108 = some (.lload 4, 2) := by decide +kernel
theorem i_74_1110 : gI 74 1110 = some (.lcmp, 1) := by decide +kernel
theorem i_74_1111 : gI 74 1111 = some (.ifCond .ne 7, 3) := by decide +kernel
theorem i_74_1114 : gI 74 1114 = some (.iconst 1, 1) := by decide +kernel
theorem i_74_1115 : gI 74 1115 = some (.goto 4, 3) := by decide +kernel
theorem i_74_1118 : gI 74 1118 = some (.iconst 0, 1) := by decide +kernel
theorem i_74_1119 : gI 74 1119 = some (.ireturn, 1) := by decide +kernel
