theorem r_46 : gR 46 = some (.boolean) := by decide +kernel
theorem l_46 : gLo 46 = 4 := by decide +kernel
theorem i_46_0 : gI 46 0 = some (.iconst 0, 1) := by decide +kernel
theorem i_46_1 : gI 46 1 = some (.istore_n 3, 1) := by decide +kernel
theorem i_46_2 : gI 46 2 = some (.iload_n 3, 1) := by decide +kernel
theorem i_46_3 : gI 46 3 = some (.aload_n 0, 1) := by decide +kernel
theorem i_46_4 : gI 46 4 = some (.getfield 37, 3) := by decide +kernel
theorem f_46_37 : gFld 46 37 = some (4, 1, 199, none, "FlyTower$Rig") := by decide +kernel
theorem i_46_7 : gI 46 7 = some (.if_icmp .ge 42, 3) := by decide +kernel
theorem i_46_10 : gI 46 10 = some (.aload_n 1, 1) := by decide +kernel
theorem i_46_11 : gI 46 11 = some (.iload_n 2, 1) := by decide +kernel
theorem i_46_12 : gI 46 12 = some (.aload_n 0, 1) := by decide +kernel
theorem i_46_13 : gI 46 13 = some (.getfield 23, 3) := by decide +kernel
theorem f_46_23 : gFld 46 23 = some (4, 0, 197, none, "FlyTower$Rig") := by decide +kernel
theorem i_46_16 : gI 46 16 = some (.iload_n 3, 1) := by decide +kernel
theorem i_46_17 : gI 46 17 = some (.aaload, 1) := by decide +kernel
theorem i_46_18 : gI 46 18 = some (.invokevirtual 194, 3) := by decide +kernel
theorem v_46_194 : gIv 46 194 = some (42, 2, 4, 0, 625, 627, 28, 0, some "FlyTower") := jv_eq (by decide +kernel)
theorem i_46_21 : gI 46 21 = some (.ifCond .eq 22, 3) := by decide +kernel
theorem i_46_24 : gI 46 24 = some (.aload_n 1, 1) := by decide +kernel
theorem i_46_25 : gI 46 25 = some (.aload_n 1, 1) := by decide +kernel
theorem i_46_26 : gI 46 26 = some (.getfield 107, 3) := by decide +kernel
theorem f_46_107 : gFld 46 107 = some (0, 3, 83, some "FlyTower", "FlyTower$Bar") := by decide +kernel
theorem i_46_29 : gI 46 29 = some (.aload_n 0, 1) := by decide +kernel
theorem i_46_30 : gI 46 30 = some (.getfield 23, 3) := by decide +kernel
theorem i_46_33 : gI 46 33 = some (.iload_n 3, 1) := by decide +kernel
theorem i_46_34 : gI 46 34 = some (.aaload, 1) := by decide +kernel
theorem i_46_35 : gI 46 35 = some (.invokevirtual 194, 3) := by decide +kernel
theorem i_46_38 : gI 46 38 = some (.ifCond .ne 5, 3) := by decide +kernel
theorem i_46_41 : gI 46 41 = some (.iconst 1, 1) := by decide +kernel
theorem i_46_42 : gI 46 42 = some (.ireturn, 1) := by decide +kernel
theorem i_46_43 : gI 46 43 = some (.iinc 3 1, 3) := by decide +kernel
theorem i_46_46 : gI 46 46 = some (.goto (-44), 3) := by decide +kernel
theorem i_46_49 : gI 46 49 = some (.iconst 0, 1) := by decide +kernel
theorem i_46_50 : gI 46 50 = some (.ireturn, 1) := by decide +kernel
theorem r_47 : gR 47 = none := by decide +kernel
theorem l_47 : gLo 47 = 2 := by decide +kernel
theorem i_47_0 : gI 47 0 = some (.aload_n 0, 1) := by decide +kernel
theorem i_47_1 : gI 47 1 = some (.dup, 1) := by decide +kernel
theorem i_47_2 : gI 47 2 = some (.getfield 44, 3) := by decide +kernel
theorem f_47_44 : gFld 47 44 = some (0, 11, 102, none, "FlyTower$Bar") := by decide +kernel
theorem i_47_5 : gI 47 5 = some (.iload_n 1, 1) := by decide +kernel
theorem i_47_6 : gI 47 6 = some (.aload_n 0, 1) := by decide +kernel
theorem i_47_7 : gI 47 7 = some (.getfield 23, 3) := by decide +kernel
theorem f_47_23 : gFld 47 23 = some (0, 3, 82, none, "FlyTower$Bar") := by decide +kernel
theorem i_47_10 : gI 47 10 = some (.if_icmp .ge 12, 3) := by decide +kernel
theorem i_47_13 : gI 47 13 = some (.aload_n 0, 1) := by decide +kernel
theorem i_47_14 : gI 47 14 = some (.getfield 23, 3) := by decide +kernel
theorem i_47_17 : gI 47 17 = some (.iload_n 1, 1) := by decide +kernel
theorem i_47_18 : gI 47 18 = some (.isub, 1) := by decide +kernel
theorem i_47_19 : gI 47 19 = some (.goto 9, 3) := by decide +kernel
theorem i_47_22 : gI 47 22 = some (.iload_n 1, 1) := by decide +kernel
theorem i_47_23 : gI 47 23 = some (.aload_n 0, 1) := by decide +kernel
theorem i_47_24 : gI 47 24 = some (.getfield 23, 3) := by decide +kernel
theorem i_47_27 : gI 47 27 = some (.isub, 1) := by decide +kernel
theorem i_47_28 : gI 47 28 = some (.iadd, 1) := by decide +kernel
theorem i_47_29 : gI 47 29 = some (.putfield 44, 3) := by decide +kernel
theorem i_47_32 : gI 47 32 = some (.aload_n 0, 1) := by decide +kernel
theorem i_47_33 : gI 47 33 = some (.iload_n 1, 1) := by decide +kernel
theorem i_47_34 : gI 47 34 = some (.putfield 23, 3) := by decide +kernel
theorem i_47_37 : gI 47 37 = some (.return_, 1) := by decide +kernel
theorem r_48 : gR 48 = none := by decide +kernel
theorem l_48 : gLo 48 = 5 := by decide +kernel
theorem i_48_0 : gI 48 0 = some (.aload_n 2, 1) := by decide +kernel
theorem i_48_1 : gI 48 1 = some (.getfield 159, 3) := by decide +kernel
theorem f_48_159 : gFld 48 159 = some (0, 1, 79, some "FlyTower", "FlyTower$Bar") := by decide +kernel
theorem i_48_4 : gI 48 4 = some (.ifCond .ne 13, 3) := by decide +kernel
theorem i_48_7 : gI 48 7 = some (.aload_n 0, 1) := by decide +kernel
theorem i_48_8 : gI 48 8 = some (.dup, 1) := by decide +kernel
theorem i_48_9 : gI 48 9 = some (.getfield 50, 3) := by decide +kernel
theorem f_48_50 : gFld 48 50 = some (4, 5, 207, none, "FlyTower$Rig") := by decide +kernel
theorem i_48_12 : gI 48 12 = some (.iconst 1, 1) := by decide +kernel
theorem i_48_13 : gI 48 13 = some (.isub, 1) := by decide +kernel
theorem i_48_14 : gI 48 14 = some (.putfield 50, 3) := by decide +kernel
theorem i_48_17 : gI 48 17 = some (.aload_n 1, 1) := by decide +kernel
theorem i_48_18 : gI 48 18 = some (.getfield 169, 3) := by decide +kernel
theorem f_48_169 : gFld 48 169 = some (2, 2, 156, some "FlyTower", "FlyTower$Move") := by decide +kernel
theorem i_48_21 : gI 48 21 = some (.ineg, 1) := by decide +kernel
theorem i_48_22 : gI 48 22 = some (.aload_n 1, 1) := by decide +kernel
theorem i_48_23 : gI 48 23 = some (.getfield 169, 3) := by decide +kernel
theorem i_48_26 : gI 48 26 = some (.aload_n 1, 1) := by decide +kernel
theorem i_48_27 : gI 48 27 = some (.getfield 172, 3) := by decide +kernel
theorem f_48_172 : gFld 48 172 = some (2, 1, 153, some "FlyTower", "FlyTower$Move") := by decide +kernel
theorem i_48_30 : gI 48 30 = some (.aload_n 2, 1) := by decide +kernel
theorem i_48_31 : gI 48 31 = some (.getfield 107, 3) := by decide +kernel
theorem f_48_107 : gFld 48 107 = some (0, 3, 83, some "FlyTower", "FlyTower$Bar") := by decide +kernel
theorem i_48_34 : gI 48 34 = some (.isub, 1) := by decide +kernel
theorem i_48_35 : gI 48 35 = some (.invokestatic 175, 3) := by decide +kernel
theorem v_48_175 : gIv 48 175 = some (0, 2, 102, 0, 617, 618, 619, 49, none) := jv_eq (by decide +kernel)
theorem i_48_38 : gI 48 38 = some (.invokestatic 181, 3) := by decide +kernel
theorem v_48_181 : gIv 48 181 = some (0, 2, 101, 0, 620, 462, 463, 49, none) := jv_eq (by decide +kernel)
theorem i_48_41 : gI 48 41 = some (.istore_n 3, 1) := by decide +kernel
theorem i_48_42 : gI 48 42 = some (.aload_n 2, 1) := by decide +kernel
theorem i_48_43 : gI 48 43 = some (.getfield 107, 3) := by decide +kernel
theorem i_48_46 : gI 48 46 = some (.iload_n 3, 1) := by decide +kernel
theorem i_48_47 : gI 48 47 = some (.iadd, 1) := by decide +kernel
theorem i_48_48 : gI 48 48 = some (.istore 4, 2) := by decide +kernel
theorem i_48_50 : gI 48 50 = some (.aload_n 0, 1) := by decide +kernel
theorem i_48_51 : gI 48 51 = some (.aload_n 2, 1) := by decide +kernel
theorem i_48_52 : gI 48 52 = some (.iload 4, 2) := by decide +kernel
theorem i_48_54 : gI 48 54 = some (.invokevirtual 184, 3) := by decide +kernel
theorem v_48_184 : gIv 48 184 = some (46, 2, 1, 4, 621, 623, 27, 0, none) := jv_eq (by decide +kernel)
theorem i_48_57 : gI 48 57 = some (.ifCond .eq 27, 3) := by decide +kernel
theorem i_48_60 : gI 48 60 = some (.aload_n 0, 1) := by decide +kernel
theorem i_48_61 : gI 48 61 = some (.iconst 1, 1) := by decide +kernel
theorem i_48_62 : gI 48 62 = some (.putfield 56, 3) := by decide +kernel
theorem f_48_56 : gFld 48 56 = some (4, 8, 212, none, "FlyTower$Rig") := by decide +kernel
theorem i_48_65 : gI 48 65 = some (.aload_n 0, 1) := by decide +kernel
theorem i_48_66 : gI 48 66 = some (.dup, 1) := by decide +kernel
theorem i_48_67 : gI 48 67 = some (.getfield 72, 3) := by decide +kernel
theorem f_48_72 : gFld 48 72 = some (4, 13, 222, none, "FlyTower$Rig") := by decide +kernel
theorem i_48_70 : gI 48 70 = some (.iconst 1, 1) := by decide +kernel
theorem i_48_71 : gI 48 71 = some (.iadd, 1) := by decide +kernel
theorem i_48_72 : gI 48 72 = some (.putfield 72, 3) := by decide +kernel
theorem i_48_75 : gI 48 75 = some (.aload_n 0, 1) := by decide +kernel
theorem i_48_76 : gI 48 76 = some (.aload_n 2, 1) := by decide +kernel
theorem i_48_77 : gI 48 77 = some (.getfield 188, 3) := by decide +kernel
theorem f_48_188 : gFld 48 188 = some (0, 0, 76, some "FlyTower", "FlyTower$Bar") := by decide +kernel
theorem i_48_80 : gI 48 80 = some (.putfield 18, 3) := by decide +kernel
theorem f_48_18 : gFld 48 18 = some (4, 17, 230, none, "FlyTower$Rig") := by decide +kernel
theorem i_48_83 : gI 48 83 = some (.return_, 1) := by decide +kernel
theorem i_48_84 : gI 48 84 = some (.aload_n 2, 1) := by decide +kernel
theorem i_48_85 : gI 48 85 = some (.iload 4, 2) := by decide +kernel
theorem i_48_87 : gI 48 87 = some (.invokevirtual 191, 3) := by decide +kernel
theorem v_48_191 : gIv 48 191 = some (47, 1, 4, 0, 629, 631, 29, 0, some "FlyTower") := jv_eq (by decide +kernel)
theorem i_48_90 : gI 48 90 = some (.aload_n 2, 1) := by decide +kernel
theorem i_48_91 : gI 48 91 = some (.getfield 107, 3) := by decide +kernel
theorem i_48_94 : gI 48 94 = some (.aload_n 1, 1) := by decide +kernel
theorem i_48_95 : gI 48 95 = some (.getfield 172, 3) := by decide +kernel
theorem i_48_98 : gI 48 98 = some (.if_icmp .ne 18, 3) := by decide +kernel
theorem i_48_101 : gI 48 101 = some (.aload_n 1, 1) := by decide +kernel
theorem i_48_102 : gI 48 102 = some (.iconst 1, 1) := by decide +kernel
theorem i_48_103 : gI 48 103 = some (.putfield 133, 3) := by decide +kernel
theorem f_48_133 : gFld 48 133 = some (2, 4, 162, some "FlyTower", "FlyTower$Move") := by decide +kernel
theorem i_48_106 : gI 48 106 = some (.aload_n 0, 1) := by decide +kernel
theorem i_48_107 : gI 48 107 = some (.dup, 1) := by decide +kernel
theorem i_48_108 : gI 48 108 = some (.getfield 63, 3) := by decide +kernel
theorem f_48_63 : gFld 48 63 = some (4, 10, 216, none, "FlyTower$Rig") := by decide +kernel
theorem i_48_111 : gI 48 111 = some (.iconst 1, 1) := by decide +kernel
theorem i_48_112 : gI 48 112 = some (.iadd, 1) := by decide +kernel
theorem i_48_113 : gI 48 113 = some (.putfield 63, 3) := by decide +kernel
theorem i_48_116 : gI 48 116 = some (.return_, 1) := by decide +kernel
theorem r_49 : gR 49 = none := by decide +kernel
theorem l_49 : gLo 49 = 5 := by decide +kernel
theorem i_49_0 : gI 49 0 = some (.aload_n 0, 1) := by decide +kernel
theorem i_49_1 : gI 49 1 = some (.dup, 1) := by decide +kernel
theorem i_49_2 : gI 49 2 = some (.getfield 60, 3) := by decide +kernel
theorem f_49_60 : gFld 49 60 = some (4, 9, 214, none, "FlyTower$Rig") := by decide +kernel
theorem i_49_5 : gI 49 5 = some (.iconst 1, 1) := by decide +kernel
theorem i_49_6 : gI 49 6 = some (.iadd, 1) := by decide +kernel
theorem i_49_7 : gI 49 7 = some (.putfield 60, 3) := by decide +kernel
theorem i_49_10 : gI 49 10 = some (.aload_n 0, 1) := by decide +kernel
theorem i_49_11 : gI 49 11 = some (.aload_n 0, 1) := by decide +kernel
theorem i_49_12 : gI 49 12 = some (.getfield 9, 3) := by decide +kernel
theorem f_49_9 : gFld 49 9 = some (4, 4, 205, none, "FlyTower$Rig") := by decide +kernel
theorem i_49_15 : gI 49 15 = some (.putfield 50, 3) := by decide +kernel
theorem f_49_50 : gFld 49 50 = some (4, 5, 207, none, "FlyTower$Rig") := by decide +kernel
theorem i_49_18 : gI 49 18 = some (.iconst 0, 1) := by decide +kernel
theorem i_49_19 : gI 49 19 = some (.istore_n 2, 1) := by decide +kernel
theorem i_49_20 : gI 49 20 = some (.iload_n 2, 1) := by decide +kernel
theorem i_49_21 : gI 49 21 = some (.aload_n 1, 1) := by decide +kernel
theorem i_49_22 : gI 49 22 = some (.getfield 126, 3) := by decide +kernel
theorem f_49_126 : gFld 49 126 = some (1, 1, 186, some "FlyTower", "FlyTower$Cue") := by decide +kernel
theorem i_49_25 : gI 49 25 = some (.if_icmp .ge 70, 3) := by decide +kernel
theorem i_49_28 : gI 49 28 = some (.aload_n 0, 1) := by decide +kernel
theorem i_49_29 : gI 49 29 = some (.getfield 56, 3) := by decide +kernel
theorem f_49_56 : gFld 49 56 = some (4, 8, 212, none, "FlyTower$Rig") := by decide +kernel
theorem i_49_32 : gI 49 32 = some (.ifCond .ne 63, 3) := by decide +kernel
theorem i_49_35 : gI 49 35 = some (.aload_n 1, 1) := by decide +kernel
theorem i_49_36 : gI 49 36 = some (.getfield 129, 3) := by decide +kernel
theorem f_49_129 : gFld 49 129 = some (1, 0, 183, some "FlyTower", "FlyTower$Cue") := by decide +kernel
theorem i_49_39 : gI 49 39 = some (.iload_n 2, 1) := by decide +kernel
theorem i_49_40 : gI 49 40 = some (.aaload, 1) := by decide +kernel
theorem i_49_41 : gI 49 41 = some (.astore_n 3, 1) := by decide +kernel
theorem i_49_42 : gI 49 42 = some (.aload_n 3, 1) := by decide +kernel
theorem i_49_43 : gI 49 43 = some (.getfield 133, 3) := by decide +kernel
theorem f_49_133 : gFld 49 133 = some (2, 4, 162, some "FlyTower", "FlyTower$Move") := by decide +kernel
theorem i_49_46 : gI 49 46 = some (.ifCond .ne 43, 3) := by decide +kernel
theorem i_49_49 : gI 49 49 = some (.aload_n 3, 1) := by decide +kernel
theorem i_49_50 : gI 49 50 = some (.getfield 138, 3) := by decide +kernel
theorem f_49_138 : gFld 49 138 = some (2, 3, 159, some "FlyTower", "FlyTower$Move") := by decide +kernel
theorem i_49_53 : gI 49 53 = some (.aload_n 0, 1) := by decide +kernel
theorem i_49_54 : gI 49 54 = some (.getfield 60, 3) := by decide +kernel
theorem i_49_57 : gI 49 57 = some (.iconst 1, 1) := by decide +kernel
theorem i_49_58 : gI 49 58 = some (.isub, 1) := by decide +kernel
theorem i_49_59 : gI 49 59 = some (.if_icmp .gt 30, 3) := by decide +kernel
theorem i_49_62 : gI 49 62 = some (.aload_n 0, 1) := by decide +kernel
theorem i_49_63 : gI 49 63 = some (.aload_n 3, 1) := by decide +kernel
theorem i_49_64 : gI 49 64 = some (.getfield 141, 3) := by decide +kernel
theorem f_49_141 : gFld 49 141 = some (2, 0, 150, some "FlyTower", "FlyTower$Move") := by decide +kernel
theorem i_49_67 : gI 49 67 = some (.invokevirtual 144, 3) := by decide +kernel
theorem v_49_144 : gIv 49 144 = some (16, 1, 1, 4, 603, 420, 1, 0, none) := jv_eq (by decide +kernel)
theorem i_49_70 : gI 49 70 = some (.astore 4, 2) := by decide +kernel
theorem i_49_72 : gI 49 72 = some (.aload_n 0, 1) := by decide +kernel
theorem i_49_73 : gI 49 73 = some (.aload_n 3, 1) := by decide +kernel
theorem i_49_74 : gI 49 74 = some (.aload 4, 2) := by decide +kernel
theorem i_49_76 : gI 49 76 = some (.invokevirtual 148, 3) := by decide +kernel
theorem v_49_148 : gIv 49 148 = some (45, 2, 1, 4, 604, 606, 24, 0, none) := jv_eq (by decide +kernel)
theorem i_49_79 : gI 49 79 = some (.ifCond .eq 10, 3) := by decide +kernel
theorem i_49_82 : gI 49 82 = some (.aload_n 0, 1) := by decide +kernel
theorem i_49_83 : gI 49 83 = some (.aload_n 3, 1) := by decide +kernel
theorem i_49_84 : gI 49 84 = some (.aload 4, 2) := by decide +kernel
theorem i_49_86 : gI 49 86 = some (.invokevirtual 152, 3) := by decide +kernel
theorem v_49_152 : gIv 49 152 = some (48, 2, 1, 4, 613, 615, 26, 0, none) := jv_eq (by decide +kernel)
theorem i_49_89 : gI 49 89 = some (.iinc 2 1, 3) := by decide +kernel
theorem i_49_92 : gI 49 92 = some (.goto (-72), 3) := by decide +kernel
theorem i_49_95 : gI 49 95 = some (.return_, 1) := by decide +kernel
theorem r_50 : gR 50 = none := by decide +kernel
theorem l_50 : gLo 50 = 4 := by decide +kernel
theorem i_50_0 : gI 50 0 = some (.aload_n 1, 1) := by decide +kernel
theorem i_50_1 : gI 50 1 = some (.getfield 107, 3) := by decide +kernel
theorem f_50_107 : gFld 50 107 = some (0, 3, 83, some "FlyTower", "FlyTower$Bar") := by decide +kernel
theorem i_50_4 : gI 50 4 = some (.iload_n 2, 1) := by decide +kernel
theorem i_50_5 : gI 50 5 = some (.if_icmp .ge 12, 3) := by decide +kernel
theorem i_50_8 : gI 50 8 = some (.iload_n 2, 1) := by decide +kernel
theorem i_50_9 : gI 50 9 = some (.aload_n 1, 1) := by decide +kernel
theorem i_50_10 : gI 50 10 = some (.getfield 107, 3) := by decide +kernel
theorem i_50_13 : gI 50 13 = some (.isub, 1) := by decide +kernel
theorem i_50_14 : gI 50 14 = some (.goto 9, 3) := by decide +kernel
theorem i_50_17 : gI 50 17 = some (.aload_n 1, 1) := by decide +kernel
theorem i_50_18 : gI 50 18 = some (.getfield 107, 3) := by decide +kernel
theorem i_50_21 : gI 50 21 = some (.iload_n 2, 1) := by decide +kernel
theorem i_50_22 : gI 50 22 = some (.isub, 1) := by decide +kernel
theorem i_50_23 : gI 50 23 = some (.istore_n 3, 1) := by decide +kernel
theorem i_50_24 : gI 50 24 = some (.aload_n 1, 1) := by decide +kernel
theorem i_50_25 : gI 50 25 = some (.getfield 107, 3) := by decide +kernel
theorem i_50_28 : gI 50 28 = some (.ifCond .eq 12, 3) := by decide +kernel
theorem i_50_31 : gI 50 31 = some (.aload_n 1, 1) := by decide +kernel
theorem i_50_32 : gI 50 32 = some (.getfield 107, 3) := by decide +kernel
theorem i_50_35 : gI 50 35 = some (.bipush 120, 2) := by decide +kernel
theorem i_50_37 : gI 50 37 = some (.if_icmp .ne 18, 3) := by decide +kernel
theorem i_50_40 : gI 50 40 = some (.iload_n 3, 1) := by decide +kernel
theorem i_50_41 : gI 50 41 = some (.iconst 4, 1) := by decide +kernel
theorem i_50_42 : gI 50 42 = some (.if_icmp .lt 13, 3) := by decide +kernel
theorem i_50_45 : gI 50 45 = some (.aload_n 0, 1) := by decide +kernel
theorem i_50_46 : gI 50 46 = some (.dup, 1) := by decide +kernel
theorem i_50_47 : gI 50 47 = some (.getfield 75, 3) := by decide +kernel
theorem f_50_75 : gFld 50 75 = some (4, 14, 224, none, "FlyTower$Rig") := by decide +kernel
theorem i_50_50 : gI 50 50 = some (.iconst 1, 1) := by decide +kernel
theorem i_50_51 : gI 50 51 = some (.iadd, 1) := by decide +kernel
theorem i_50_52 : gI 50 52 = some (.putfield 75, 3) := by decide +kernel
theorem i_50_55 : gI 50 55 = some (.aload_n 1, 1) := by decide +kernel
theorem i_50_56 : gI 50 56 = some (.getfield 107, 3) := by decide +kernel
theorem i_50_59 : gI 50 59 = some (.iload_n 2, 1) := by decide +kernel
theorem i_50_60 : gI 50 60 = some (.if_icmp .ge 29, 3) := by decide +kernel
theorem i_50_63 : gI 50 63 = some (.aload_n 1, 1) := by decide +kernel
theorem i_50_64 : gI 50 64 = some (.getfield 107, 3) := by decide +kernel
theorem i_50_67 : gI 50 67 = some (.bipush 20, 2) := by decide +kernel
theorem i_50_69 : gI 50 69 = some (.if_icmp .gt 20, 3) := by decide +kernel
theorem i_50_72 : gI 50 72 = some (.aload_n 1, 1) := by decide +kernel
theorem i_50_73 : gI 50 73 = some (.getfield 162, 3) := by decide +kernel
theorem f_50_162 : gFld 50 162 = some (0, 8, 95, some "FlyTower", "FlyTower$Bar") := by decide +kernel
theorem i_50_76 : gI 50 76 = some (.ifCond .eq 13, 3) := by decide +kernel
theorem i_50_79 : gI 50 79 = some (.aload_n 0, 1) := by decide +kernel
theorem i_50_80 : gI 50 80 = some (.dup, 1) := by decide +kernel
theorem i_50_81 : gI 50 81 = some (.getfield 78, 3) := by decide +kernel
theorem f_50_78 : gFld 50 78 = some (4, 15, 226, none, "FlyTower$Rig") := by decide +kernel
theorem i_50_84 : gI 50 84 = some (.iconst 1, 1) := by decide +kernel
theorem i_50_85 : gI 50 85 = some (.iadd, 1) := by decide +kernel
theorem i_50_86 : gI 50 86 = some (.putfield 78, 3) := by decide +kernel
theorem i_50_89 : gI 50 89 = some (.return_, 1) := by decide +kernel
theorem r_51 : gR 51 = none := by decide +kernel
theorem l_51 : gLo 51 = 7 := by decide +kernel
theorem i_51_0 : gI 51 0 = some (.bipush 8, 2) := by decide +kernel
theorem i_51_2 : gI 51 2 = some (.aload_n 1, 1) := by decide +kernel
theorem i_51_3 : gI 51 3 = some (.invokevirtual 156, 3) := by decide +kernel
theorem v_51_156 : gIv 51 156 = some (44, 0, 4, 0, 608, 610, 25, 0, some "FlyTower") := jv_eq (by decide +kernel)
theorem i_51_6 : gI 51 6 = some (.bipush 9, 2) := by decide +kernel
theorem i_51_8 : gI 51 8 = some (.iadd, 1) := by decide +kernel
theorem i_51_9 : gI 51 9 = some (.bipush 10, 2) := by decide +kernel
theorem i_51_11 : gI 51 11 = some (.idiv, 1) := by decide +kernel
theorem i_51_12 : gI 51 12 = some (.invokestatic 175, 3) := by decide +kernel
theorem v_51_175 : gIv 51 175 = some (0, 2, 102, 0, 617, 618, 619, 49, none) := jv_eq (by decide +kernel)
theorem i_51_15 : gI 51 15 = some (.istore_n 2, 1) := by decide +kernel
theorem i_51_16 : gI 51 16 = some (.aload_n 1, 1) := by decide +kernel
theorem i_51_17 : gI 51 17 = some (.invokevirtual 198, 3) := by decide +kernel
theorem v_51_198 : gIv 51 198 = some (17, 0, 4, 0, 637, 477, 5, 0, some "FlyTower") := jv_eq (by decide +kernel)
theorem i_51_20 : gI 51 20 = some (.ifCond .le 7, 3) := by decide +kernel
theorem i_51_23 : gI 51 23 = some (.iconst (-1), 1) := by decide +kernel
theorem i_51_24 : gI 51 24 = some (.goto 4, 3) := by decide +kernel
theorem i_51_27 : gI 51 27 = some (.iconst 1, 1) := by decide +kernel
theorem i_51_28 : gI 51 28 = some (.istore_n 3, 1) := by decide +kernel
theorem i_51_29 : gI 51 29 = some (.aload_n 1, 1) := by decide +kernel
theorem i_51_30 : gI 51 30 = some (.getfield 107, 3) := by decide +kernel
theorem f_51_107 : gFld 51 107 = some (0, 3, 83, some "FlyTower", "FlyTower$Bar") := by decide +kernel
theorem i_51_33 : gI 51 33 = some (.istore 4, 2) := by decide +kernel
theorem i_51_35 : gI 51 35 = some (.iconst 0, 1) := by decide +kernel
theorem i_51_36 : gI 51 36 = some (.istore 5, 2) := by decide +kernel
theorem i_51_38 : gI 51 38 = some (.iload 5, 2) := by decide +kernel
theorem i_51_40 : gI 51 40 = some (.iload_n 2, 1) := by decide +kernel
theorem i_51_41 : gI 51 41 = some (.if_icmp .ge 48, 3) := by decide +kernel
theorem i_51_44 : gI 51 44 = some (.aload_n 1, 1) := by decide +kernel
theorem i_51_45 : gI 51 45 = some (.getfield 107, 3) := by decide +kernel
theorem i_51_48 : gI 51 48 = some (.iload_n 3, 1) := by decide +kernel
theorem i_51_49 : gI 51 49 = some (.iadd, 1) := by decide +kernel
theorem i_51_50 : gI 51 50 = some (.istore 6, 2) := by decide +kernel
theorem i_51_52 : gI 51 52 = some (.iload 6, 2) := by decide +kernel
theorem i_51_54 : gI 51 54 = some (.ifCond .lt 35, 3) := by decide +kernel
theorem i_51_57 : gI 51 57 = some (.iload 6, 2) := by decide +kernel
theorem i_51_59 : gI 51 59 = some (.bipush 120, 2) := by decide +kernel
theorem i_51_61 : gI 51 61 = some (.if_icmp .gt 28, 3) := by decide +kernel
theorem i_51_64 : gI 51 64 = some (.aload_n 0, 1) := by decide +kernel
theorem i_51_65 : gI 51 65 = some (.aload_n 1, 1) := by decide +kernel
theorem i_51_66 : gI 51 66 = some (.iload 6, 2) := by decide +kernel
theorem i_51_68 : gI 51 68 = some (.invokevirtual 184, 3) := by decide +kernel
theorem v_51_184 : gIv 51 184 = some (46, 2, 1, 4, 621, 623, 27, 0, none) := jv_eq (by decide +kernel)
theorem i_51_71 : gI 51 71 = some (.ifCond .eq 6, 3) := by decide +kernel
theorem i_51_74 : gI 51 74 = some (.goto 15, 3) := by decide +kernel
theorem i_51_77 : gI 51 77 = some (.aload_n 1, 1) := by decide +kernel
theorem i_51_78 : gI 51 78 = some (.iload 6, 2) := by decide +kernel
theorem i_51_80 : gI 51 80 = some (.invokevirtual 191, 3) := by decide +kernel
theorem v_51_191 : gIv 51 191 = some (47, 1, 4, 0, 629, 631, 29, 0, some "FlyTower") := jv_eq (by decide +kernel)
theorem i_51_83 : gI 51 83 = some (.iinc 5 1, 3) := by decide +kernel
theorem i_51_86 : gI 51 86 = some (.goto (-48), 3) := by decide +kernel
theorem i_51_89 : gI 51 89 = some (.aload_n 0, 1) := by decide +kernel
theorem i_51_90 : gI 51 90 = some (.aload_n 1, 1) := by decide +kernel
theorem i_51_91 : gI 51 91 = some (.iload 4, 2) := by decide +kernel
theorem i_51_93 : gI 51 93 = some (.invokevirtual 201, 3) := by decide +kernel
theorem v_51_201 : gIv 51 201 = some (50, 2, 1, 4, 638, 640, 31, 0, none) := jv_eq (by decide +kernel)
theorem i_51_96 : gI 51 96 = some (.return_, 1) := by decide +kernel
theorem r_52 : gR 52 = none := by decide +kernel
theorem l_52 : gLo 52 = 2 := by decide +kernel
theorem i_52_0 : gI 52 0 = some (.aload_n 0, 1) := by decide +kernel
theorem i_52_1 : gI 52 1 = some (.dup, 1) := by decide +kernel
theorem i_52_2 : gI 52 2 = some (.getfield 66, 3) := by decide +kernel
theorem f_52_66 : gFld 52 66 = some (4, 11, 218, none, "FlyTower$Rig") := by decide +kernel
theorem i_52_5 : gI 52 5 = some (.iconst 1, 1) := by decide +kernel
theorem i_52_6 : gI 52 6 = some (.iadd, 1) := by decide +kernel
theorem i_52_7 : gI 52 7 = some (.putfield 66, 3) := by decide +kernel
theorem i_52_10 : gI 52 10 = some (.aload_n 0, 1) := by decide +kernel
theorem i_52_11 : gI 52 11 = some (.invokevirtual 205, 3) := by decide +kernel
theorem v_52_205 : gIv 52 205 = some (39, 0, 1, 4, 647, 520, 12, 0, none) := jv_eq (by decide +kernel)
theorem i_52_14 : gI 52 14 = some (.iload_n 1, 1) := by decide +kernel
theorem i_52_15 : gI 52 15 = some (.iconst (-1), 1) := by decide +kernel
theorem i_52_16 : gI 52 16 = some (.if_icmp .eq 16, 3) := by decide +kernel
theorem i_52_19 : gI 52 19 = some (.iload_n 1, 1) := by decide +kernel
theorem i_52_20 : gI 52 20 = some (.aload_n 0, 1) := by decide +kernel
theorem i_52_21 : gI 52 21 = some (.getfield 44, 3) := by decide +kernel
theorem f_52_44 : gFld 52 44 = some (4, 3, 203, none, "FlyTower$Rig") := by decide +kernel
theorem i_52_24 : gI 52 24 = some (.if_icmp .ge 8, 3) := by decide +kernel
theorem i_52_27 : gI 52 27 = some (.aload_n 0, 1) := by decide +kernel
theorem i_52_28 : gI 52 28 = some (.iload_n 1, 1) := by decide +kernel
theorem i_52_29 : gI 52 29 = some (.invokevirtual 208, 3) := by decide +kernel
theorem v_52_208 : gIv 52 208 = some (35, 1, 1, 4, 648, 490, 7, 0, none) := jv_eq (by decide +kernel)
theorem i_52_32 : gI 52 32 = some (.return_, 1) := by decide +kernel
theorem r_53 : gR 53 = none := by decide +kernel
theorem l_53 : gLo 53 = 2 := by decide +kernel
theorem i_53_0 : gI 53 0 = some (.aload_n 0, 1) := by decide +kernel
theorem i_53_1 : gI 53 1 = some (.dup, 1) := by decide +kernel
theorem i_53_2 : gI 53 2 = some (.getfield 53, 3) := by decide +kernel
theorem f_53_53 : gFld 53 53 = some (4, 6, 208, none, "FlyTower$Rig") := by decide +kernel
theorem i_53_5 : gI 53 5 = some (.iconst 1, 1) := by decide +kernel
theorem i_53_6 : gI 53 6 = some (.iadd, 1) := by decide +kernel
theorem i_53_7 : gI 53 7 = some (.putfield 53, 3) := by decide +kernel
theorem i_53_10 : gI 53 10 = some (.iconst 0, 1) := by decide +kernel
theorem i_53_11 : gI 53 11 = some (.istore_n 1, 1) := by decide +kernel
theorem i_53_12 : gI 53 12 = some (.iload_n 1, 1) := by decide +kernel
theorem i_53_13 : gI 53 13 = some (.aload_n 0, 1) := by decide +kernel
theorem i_53_14 : gI 53 14 = some (.getfield 37, 3) := by decide +kernel
theorem f_53_37 : gFld 53 37 = some (4, 1, 199, none, "FlyTower$Rig") := by decide +kernel
theorem i_53_17 : gI 53 17 = some (.if_icmp .ge 27, 3) := by decide +kernel
theorem i_53_20 : gI 53 20 = some (.aload_n 0, 1) := by decide +kernel
theorem i_53_21 : gI 53 21 = some (.getfield 23, 3) := by decide +kernel
theorem f_53_23 : gFld 53 23 = some (4, 0, 197, none, "FlyTower$Rig") := by decide +kernel
theorem i_53_24 : gI 53 24 = some (.iload_n 1, 1) := by decide +kernel
theorem i_53_25 : gI 53 25 = some (.aaload, 1) := by decide +kernel
theorem i_53_26 : gI 53 26 = some (.aload_n 0, 1) := by decide +kernel
theorem i_53_27 : gI 53 27 = some (.getfield 23, 3) := by decide +kernel
theorem i_53_30 : gI 53 30 = some (.iload_n 1, 1) := by decide +kernel
theorem i_53_31 : gI 53 31 = some (.aaload, 1) := by decide +kernel
theorem i_53_32 : gI 53 32 = some (.getfield 107, 3) := by decide +kernel
theorem f_53_107 : gFld 53 107 = some (0, 3, 83, some "FlyTower", "FlyTower$Bar") := by decide +kernel
theorem i_53_35 : gI 53 35 = some (.putfield 110, 3) := by decide +kernel
theorem f_53_110 : gFld 53 110 = some (0, 12, 105, some "FlyTower", "FlyTower$Bar") := by decide +kernel
theorem i_53_38 : gI 53 38 = some (.iinc 1 1, 3) := by decide +kernel
theorem i_53_41 : gI 53 41 = some (.goto (-29), 3) := by decide +kernel
theorem i_53_44 : gI 53 44 = some (.aload_n 0, 1) := by decide +kernel
theorem i_53_45 : gI 53 45 = some (.getfield 15, 3) := by decide +kernel
theorem f_53_15 : gFld 53 15 = some (4, 7, 210, none, "FlyTower$Rig") := by decide +kernel
theorem i_53_48 : gI 53 48 = some (.iconst (-1), 1) := by decide +kernel
theorem i_53_49 : gI 53 49 = some (.if_icmp .eq 22, 3) := by decide +kernel
theorem i_53_52 : gI 53 52 = some (.aload_n 0, 1) := by decide +kernel
theorem i_53_53 : gI 53 53 = some (.getfield 56, 3) := by decide +kernel
theorem f_53_56 : gFld 53 56 = some (4, 8, 212, none, "FlyTower$Rig") := by decide +kernel
theorem i_53_56 : gI 53 56 = some (.ifCond .ne 15, 3) := by decide +kernel
theorem i_53_59 : gI 53 59 = some (.aload_n 0, 1) := by decide +kernel
theorem i_53_60 : gI 53 60 = some (.aload_n 0, 1) := by decide +kernel
theorem i_53_61 : gI 53 61 = some (.aload_n 0, 1) := by decide +kernel
theorem i_53_62 : gI 53 62 = some (.getfield 15, 3) := by decide +kernel
theorem i_53_65 : gI 53 65 = some (.invokevirtual 96, 3) := by decide +kernel
theorem v_53_96 : gIv 53 96 = some (11, 1, 1, 4, 492, 485, 6, 0, none) := jv_eq (by decide +kernel)
theorem i_53_68 : gI 53 68 = some (.invokevirtual 113, 3) := by decide +kernel
theorem v_53_113 : gIv 53 113 = some (49, 1, 1, 4, 599, 601, 23, 0, none) := jv_eq (by decide +kernel)
theorem i_53_71 : gI 53 71 = some (.iconst 0, 1) := by decide +kernel
theorem i_53_72 : gI 53 72 = some (.istore_n 1, 1) := by decide +kernel
theorem i_53_73 : gI 53 73 = some (.iload_n 1, 1) := by decide +kernel
theorem i_53_74 : gI 53 74 = some (.aload_n 0, 1) := by decide +kernel
theorem i_53_75 : gI 53 75 = some (.getfield 37, 3) := by decide +kernel
theorem i_53_78 : gI 53 78 = some (.if_icmp .ge 52, 3) := by decide +kernel
theorem i_53_81 : gI 53 81 = some (.aload_n 0, 1) := by decide +kernel
theorem i_53_82 : gI 53 82 = some (.getfield 23, 3) := by decide +kernel
theorem i_53_85 : gI 53 85 = some (.iload_n 1, 1) := by decide +kernel
theorem i_53_86 : gI 53 86 = some (.aaload, 1) := by decide +kernel
theorem i_53_87 : gI 53 87 = some (.getfield 93, 3) := by decide +kernel
theorem f_53_93 : gFld 53 93 = some (0, 10, 100, some "FlyTower", "FlyTower$Bar") := by decide +kernel
theorem i_53_90 : gI 53 90 = some (.ifCond .eq 34, 3) := by decide +kernel
theorem i_53_93 : gI 53 93 = some (.aload_n 0, 1) := by decide +kernel
theorem i_53_94 : gI 53 94 = some (.getfield 23, 3) := by decide +kernel
theorem i_53_97 : gI 53 97 = some (.iload_n 1, 1) := by decide +kernel
theorem i_53_98 : gI 53 98 = some (.aaload, 1) := by decide +kernel
theorem i_53_99 : gI 53 99 = some (.getfield 107, 3) := by decide +kernel
theorem i_53_102 : gI 53 102 = some (.aload_n 0, 1) := by decide +kernel
theorem i_53_103 : gI 53 103 = some (.getfield 23, 3) := by decide +kernel
theorem i_53_106 : gI 53 106 = some (.iload_n 1, 1) := by decide +kernel
theorem i_53_107 : gI 53 107 = some (.aaload, 1) := by decide +kernel
theorem i_53_108 : gI 53 108 = some (.getfield 110, 3) := by decide +kernel
theorem i_53_111 : gI 53 111 = some (.if_icmp .ne 13, 3) := by decide +kernel
theorem i_53_114 : gI 53 114 = some (.aload_n 0, 1) := by decide +kernel
theorem i_53_115 : gI 53 115 = some (.aload_n 0, 1) := by decide +kernel
theorem i_53_116 : gI 53 116 = some (.getfield 23, 3) := by decide +kernel
theorem i_53_119 : gI 53 119 = some (.iload_n 1, 1) := by decide +kernel
theorem i_53_120 : gI 53 120 = some (.aaload, 1) := by decide +kernel
theorem i_53_121 : gI 53 121 = some (.invokevirtual 116, 3) := by decide +kernel
theorem v_53_116 : gIv 53 116 = some (51, 1, 1, 4, 633, 635, 30, 0, none) := jv_eq (by decide +kernel)
theorem i_53_124 : gI 53 124 = some (.iinc 1 1, 3) := by decide +kernel
theorem i_53_127 : gI 53 127 = some (.goto (-54), 3) := by decide +kernel
theorem i_53_130 : gI 53 130 = some (.aload_n 0, 1) := by decide +kernel
theorem i_53_131 : gI 53 131 = some (.getfield 15, 3) := by decide +kernel
theorem i_53_134 : gI 53 134 = some (.iconst (-1), 1) := by decide +kernel
theorem i_53_135 : gI 53 135 = some (.if_icmp .eq 25, 3) := by decide +kernel
theorem i_53_138 : gI 53 138 = some (.aload_n 0, 1) := by decide +kernel
theorem i_53_139 : gI 53 139 = some (.invokevirtual 119, 3) := by decide +kernel
theorem v_53_119 : gIv 53 119 = some (13, 0, 1, 4, 642, 512, 10, 0, none) := jv_eq (by decide +kernel)
theorem i_53_142 : gI 53 142 = some (.ifCond .ne 18, 3) := by decide +kernel
theorem i_53_145 : gI 53 145 = some (.aload_n 0, 1) := by decide +kernel
theorem i_53_146 : gI 53 146 = some (.aload_n 0, 1) := by decide +kernel
theorem i_53_147 : gI 53 147 = some (.aload_n 0, 1) := by decide +kernel
theorem i_53_148 : gI 53 148 = some (.getfield 15, 3) := by decide +kernel
theorem i_53_151 : gI 53 151 = some (.invokevirtual 96, 3) := by decide +kernel
theorem i_53_154 : gI 53 154 = some (.getfield 120, 3) := by decide +kernel
theorem f_53_120 : gFld 53 120 = some (1, 2, 189, some "FlyTower", "FlyTower$Cue") := by decide +kernel
theorem i_53_157 : gI 53 157 = some (.invokevirtual 123, 3) := by decide +kernel
theorem v_53_123 : gIv 53 123 = some (52, 1, 1, 4, 643, 645, 32, 0, none) := jv_eq (by decide +kernel)
theorem i_53_160 : gI 53 160 = some (.return_, 1) := by decide +kernel
theorem r_54 : gR 54 = some (.int) := by decide +kernel
theorem l_54 : gLo 54 = 4 := by decide +kernel
theorem th_54_11 : gThr 54 11 = some ("java/lang/IllegalArgumentException", 30, 210, 34, "seconds are 1 to 120", false) := by decide +kernel
theorem th_54_36 : gThr 54 36 = some ("java/lang/IllegalStateException", 41, 215, 45, "NOW would be above 3000", false) := by decide +kernel
theorem i_54_0 : gI 54 0 = some (.iload_n 1, 1) := by decide +kernel
theorem i_54_1 : gI 54 1 = some (.iconst 1, 1) := by decide +kernel
theorem i_54_2 : gI 54 2 = some (.if_icmp .lt 9, 3) := by decide +kernel
theorem i_54_5 : gI 54 5 = some (.iload_n 1, 1) := by decide +kernel
theorem i_54_6 : gI 54 6 = some (.bipush 120, 2) := by decide +kernel
theorem i_54_8 : gI 54 8 = some (.if_icmp .le 13, 3) := by decide +kernel
theorem i_54_11 : gI 54 11 = some (.new 30, 3) := by decide +kernel
theorem i_54_14 : gI 54 14 = some (.dup, 1) := by decide +kernel
theorem i_54_15 : gI 54 15 = some (.ldc 210, 2) := by decide +kernel
theorem i_54_17 : gI 54 17 = some (.invokespecial 34, 3) := by decide +kernel
theorem i_54_20 : gI 54 20 = some (.athrow, 1) := by decide +kernel
theorem i_54_21 : gI 54 21 = some (.aload_n 0, 1) := by decide +kernel
theorem i_54_22 : gI 54 22 = some (.getfield 10, 3) := by decide +kernel
theorem f_54_10 : gFld 54 10 = some (5, 0, 290, none, "FlyTower") := by decide +kernel
theorem i_54_25 : gI 54 25 = some (.getfield 212, 3) := by decide +kernel
theorem f_54_212 : gFld 54 212 = some (4, 6, 209, some "FlyTower", "FlyTower$Rig") := by decide +kernel
theorem i_54_28 : gI 54 28 = some (.iload_n 1, 1) := by decide +kernel
theorem i_54_29 : gI 54 29 = some (.iadd, 1) := by decide +kernel
theorem i_54_30 : gI 54 30 = some (.sipush 3000, 3) := by decide +kernel
theorem i_54_33 : gI 54 33 = some (.if_icmp .le 13, 3) := by decide +kernel
theorem i_54_36 : gI 54 36 = some (.new 41, 3) := by decide +kernel
theorem i_54_39 : gI 54 39 = some (.dup, 1) := by decide +kernel
theorem i_54_40 : gI 54 40 = some (.ldc 215, 2) := by decide +kernel
theorem i_54_42 : gI 54 42 = some (.invokespecial 45, 3) := by decide +kernel
theorem i_54_45 : gI 54 45 = some (.athrow, 1) := by decide +kernel
theorem i_54_46 : gI 54 46 = some (.aload_n 0, 1) := by decide +kernel
theorem i_54_47 : gI 54 47 = some (.getfield 10, 3) := by decide +kernel
theorem i_54_50 : gI 54 50 = some (.getfield 217, 3) := by decide +kernel
theorem f_54_217 : gFld 54 217 = some (4, 10, 217, some "FlyTower", "FlyTower$Rig") := by decide +kernel
theorem i_54_53 : gI 54 53 = some (.istore_n 2, 1) := by decide +kernel
theorem i_54_54 : gI 54 54 = some (.iconst 0, 1) := by decide +kernel
theorem i_54_55 : gI 54 55 = some (.istore_n 3, 1) := by decide +kernel
theorem i_54_56 : gI 54 56 = some (.iload_n 3, 1) := by decide +kernel
theorem i_54_57 : gI 54 57 = some (.iload_n 1, 1) := by decide +kernel
theorem i_54_58 : gI 54 58 = some (.if_icmp .ge 16, 3) := by decide +kernel
theorem i_54_61 : gI 54 61 = some (.aload_n 0, 1) := by decide +kernel
theorem i_54_62 : gI 54 62 = some (.getfield 10, 3) := by decide +kernel
theorem i_54_65 : gI 54 65 = some (.invokevirtual 220, 3) := by decide +kernel
theorem v_54_220 : gIv 54 220 = some (53, 0, 4, 4, 595, 597, 22, 0, some "FlyTower") := jv_eq (by decide +kernel)
theorem i_54_68 : gI 54 68 = some (.iinc 3 1, 3) := by decide +kernel
theorem i_54_71 : gI 54 71 = some (.goto (-15), 3) := by decide +kernel
theorem i_54_74 : gI 54 74 = some (.aload_n 0, 1) := by decide +kernel
theorem i_54_75 : gI 54 75 = some (.getfield 10, 3) := by decide +kernel
theorem i_54_78 : gI 54 78 = some (.getfield 217, 3) := by decide +kernel
theorem i_54_81 : gI 54 81 = some (.iload_n 2, 1) := by decide +kernel
theorem i_54_82 : gI 54 82 = some (.isub, 1) := by decide +kernel
theorem i_54_83 : gI 54 83 = some (.ireturn, 1) := by decide +kernel
theorem r_55 : gR 55 = some (.int) := by decide +kernel
theorem l_55 : gLo 55 = 1 := by decide +kernel
theorem i_55_0 : gI 55 0 = some (.iload_n 0, 1) := by decide +kernel
theorem i_55_1 : gI 55 1 = some (.iload_n 0, 1) := by decide +kernel
theorem i_55_2 : gI 55 2 = some (.iconst 1, 1) := by decide +kernel
theorem i_55_3 : gI 55 3 = some (.iushr, 1) := by decide +kernel
theorem i_55_4 : gI 55 4 = some (.ldc_w 265, 3) := by decide +kernel
theorem c_55_265 : gCs 55 265 = some (.int (1431655765), 720) := by decide +kernel
theorem i_55_7 : gI 55 7 = some (.iand, 1) := by decide +kernel
theorem i_55_8 : gI 55 8 = some (.isub, 1) := by decide +kernel
theorem i_55_9 : gI 55 9 = some (.istore_n 0, 1) := by decide +kernel
theorem i_55_10 : gI 55 10 = some (.iload_n 0, 1) := by decide +kernel
theorem i_55_11 : gI 55 11 = some (.ldc_w 266, 3) := by decide +kernel
theorem c_55_266 : gCs 55 266 = some (.int (858993459), 721) := by decide +kernel
theorem i_55_14 : gI 55 14 = some (.iand, 1) := by decide +kernel
theorem i_55_15 : gI 55 15 = some (.iload_n 0, 1) := by decide +kernel
theorem i_55_16 : gI 55 16 = some (.iconst 2, 1) := by decide +kernel
theorem i_55_17 : gI 55 17 = some (.iushr, 1) := by decide +kernel
theorem i_55_18 : gI 55 18 = some (.ldc_w 266, 3) := by decide +kernel
theorem i_55_21 : gI 55 21 = some (.iand, 1) := by decide +kernel
theorem i_55_22 : gI 55 22 = some (.iadd, 1) := by decide +kernel
theorem i_55_23 : gI 55 23 = some (.istore_n 0, 1) := by decide +kernel
theorem i_55_24 : gI 55 24 = some (.iload_n 0, 1) := by decide +kernel
theorem i_55_25 : gI 55 25 = some (.iload_n 0, 1) := by decide +kernel
theorem i_55_26 : gI 55 26 = some (.iconst 4, 1) := by decide +kernel
theorem i_55_27 : gI 55 27 = some (.iushr, 1) := by decide +kernel
theorem i_55_28 : gI 55 28 = some (.iadd, 1) := by decide +kernel
theorem i_55_29 : gI 55 29 = some (.ldc_w 267, 3) := by decide +kernel
theorem c_55_267 : gCs 55 267 = some (.int (252645135), 722) := by decide +kernel
theorem i_55_32 : gI 55 32 = some (.iand, 1) := by decide +kernel
theorem i_55_33 : gI 55 33 = some (.istore_n 0, 1) := by decide +kernel
theorem i_55_34 : gI 55 34 = some (.iload_n 0, 1) := by decide +kernel
theorem i_55_35 : gI 55 35 = some (.iload_n 0, 1) := by decide +kernel
theorem i_55_36 : gI 55 36 = some (.bipush 8, 2) := by decide +kernel
theorem i_55_38 : gI 55 38 = some (.iushr, 1) := by decide +kernel
theorem i_55_39 : gI 55 39 = some (.iadd, 1) := by decide +kernel
theorem i_55_40 : gI 55 40 = some (.istore_n 0, 1) := by decide +kernel
theorem i_55_41 : gI 55 41 = some (.iload_n 0, 1) := by decide +kernel
theorem i_55_42 : gI 55 42 = some (.iload_n 0, 1) := by decide +kernel
theorem i_55_43 : gI 55 43 = some (.bipush 16, 2) := by decide +kernel
theorem i_55_45 : gI 55 45 = some (.iushr, 1) := by decide +kernel
theorem i_55_46 : gI 55 46 = some (.iadd, 1) := by decide +kernel
theorem i_55_47 : gI 55 47 = some (.istore_n 0, 1) := by decide +kernel
theorem i_55_48 : gI 55 48 = some (.iload_n 0, 1) := by decide +kernel
theorem i_55_49 : gI 55 49 = some (.bipush 63, 2) := by decide +kernel
theorem i_55_51 : gI 55 51 = some (.iand, 1) := by decide +kernel
theorem i_55_52 : gI 55 52 = some (.ireturn, 1) := by decide +kernel
theorem r_56 : gR 56 = some (.int) := by decide +kernel
theorem l_56 : gLo 56 = 17 := by decide +kernel
theorem i_56_0 : gI 56 0 = some (.iload_n 1, 1) := by decide +kernel
theorem i_56_1 : gI 56 1 = some (.newarray .int, 2) := by decide +kernel
theorem i_56_3 : gI 56 3 = some (.astore_n 2, 1) := by decide +kernel
theorem i_56_4 : gI 56 4 = some (.iload_n 1, 1) := by decide +kernel
theorem i_56_5 : gI 56 5 = some (.newarray .int, 2) := by decide +kernel
theorem i_56_7 : gI 56 7 = some (.astore_n 3, 1) := by decide +kernel
theorem i_56_8 : gI 56 8 = some (.iload_n 1, 1) := by decide +kernel
theorem i_56_9 : gI 56 9 = some (.newarray .int, 2) := by decide +kernel
theorem i_56_11 : gI 56 11 = some (.astore 4, 2) := by decide +kernel
theorem i_56_13 : gI 56 13 = some (.iconst 5, 1) := by decide +kernel
theorem i_56_14 : gI 56 14 = some (.newarray .int, 2) := by decide +kernel
theorem i_56_16 : gI 56 16 = some (.astore 5, 2) := by decide +kernel
theorem i_56_18 : gI 56 18 = some (.iconst 0, 1) := by decide +kernel
theorem i_56_19 : gI 56 19 = some (.istore 6, 2) := by decide +kernel
theorem i_56_21 : gI 56 21 = some (.iload 6, 2) := by decide +kernel
theorem i_56_23 : gI 56 23 = some (.iload_n 1, 1) := by decide +kernel
theorem i_56_24 : gI 56 24 = some (.if_icmp .ge 70, 3) := by decide +kernel
theorem i_56_27 : gI 56 27 = some (.aload_n 2, 1) := by decide +kernel
theorem i_56_28 : gI 56 28 = some (.iload 6, 2) := by decide +kernel
theorem i_56_30 : gI 56 30 = some (.aload_n 0, 1) := by decide +kernel
theorem i_56_31 : gI 56 31 = some (.iload 6, 2) := by decide +kernel
theorem i_56_33 : gI 56 33 = some (.iconst 2, 1) := by decide +kernel
theorem i_56_34 : gI 56 34 = some (.invokevirtual 37, 3) := by decide +kernel
theorem v_56_37 : gIv 56 37 = some (18, 2, 1, 5, 526, 527, 528, 0, none) := jv_eq (by decide +kernel)
theorem i_56_37 : gI 56 37 = some (.iastore, 1) := by decide +kernel
theorem i_56_38 : gI 56 38 = some (.aload_n 3, 1) := by decide +kernel
theorem i_56_39 : gI 56 39 = some (.iload 6, 2) := by decide +kernel
theorem i_56_41 : gI 56 41 = some (.aload_n 0, 1) := by decide +kernel
theorem i_56_42 : gI 56 42 = some (.iload 6, 2) := by decide +kernel
theorem i_56_44 : gI 56 44 = some (.bipush 11, 2) := by decide +kernel
theorem i_56_46 : gI 56 46 = some (.invokevirtual 37, 3) := by decide +kernel
theorem i_56_49 : gI 56 49 = some (.iastore, 1) := by decide +kernel
theorem i_56_50 : gI 56 50 = some (.iconst 0, 1) := by decide +kernel
theorem i_56_51 : gI 56 51 = some (.istore 7, 2) := by decide +kernel
theorem i_56_53 : gI 56 53 = some (.iload 7, 2) := by decide +kernel
theorem i_56_55 : gI 56 55 = some (.iload_n 1, 1) := by decide +kernel
theorem i_56_56 : gI 56 56 = some (.if_icmp .ge 32, 3) := by decide +kernel
theorem i_56_59 : gI 56 59 = some (.aload_n 0, 1) := by decide +kernel
theorem i_56_60 : gI 56 60 = some (.iload 6, 2) := by decide +kernel
theorem i_56_62 : gI 56 62 = some (.iload 7, 2) := by decide +kernel
theorem i_56_64 : gI 56 64 = some (.invokevirtual 107, 3) := by decide +kernel
theorem v_56_107 : gIv 56 107 = some (43, 2, 1, 5, 703, 704, 705, 0, none) := jv_eq (by decide +kernel)
theorem i_56_67 : gI 56 67 = some (.ifCond .eq 15, 3) := by decide +kernel
theorem i_56_70 : gI 56 70 = some (.aload 4, 2) := by decide +kernel
theorem i_56_72 : gI 56 72 = some (.iload 6, 2) := by decide +kernel
theorem i_56_74 : gI 56 74 = some (.dup2, 1) := by decide +kernel
theorem i_56_75 : gI 56 75 = some (.iaload, 1) := by decide +kernel
theorem i_56_76 : gI 56 76 = some (.iconst 1, 1) := by decide +kernel
theorem i_56_77 : gI 56 77 = some (.iload 7, 2) := by decide +kernel
theorem i_56_79 : gI 56 79 = some (.ishl, 1) := by decide +kernel
theorem i_56_80 : gI 56 80 = some (.ior, 1) := by decide +kernel
theorem i_56_81 : gI 56 81 = some (.iastore, 1) := by decide +kernel
theorem i_56_82 : gI 56 82 = some (.iinc 7 1, 3) := by decide +kernel
theorem i_56_85 : gI 56 85 = some (.goto (-32), 3) := by decide +kernel
theorem i_56_88 : gI 56 88 = some (.iinc 6 1, 3) := by decide +kernel
theorem i_56_91 : gI 56 91 = some (.goto (-70), 3) := by decide +kernel
theorem i_56_94 : gI 56 94 = some (.iconst 0, 1) := by decide +kernel
theorem i_56_95 : gI 56 95 = some (.istore 6, 2) := by decide +kernel
theorem i_56_97 : gI 56 97 = some (.iload 6, 2) := by decide +kernel
theorem i_56_99 : gI 56 99 = some (.iconst 5, 1) := by decide +kernel
theorem i_56_100 : gI 56 100 = some (.if_icmp .ge 23, 3) := by decide +kernel
theorem i_56_103 : gI 56 103 = some (.aload 5, 2) := by decide +kernel
theorem i_56_105 : gI 56 105 = some (.iload 6, 2) := by decide +kernel
theorem i_56_107 : gI 56 107 = some (.aload_n 0, 1) := by decide +kernel
theorem i_56_108 : gI 56 108 = some (.bipush 10, 2) := by decide +kernel
theorem i_56_110 : gI 56 110 = some (.iload 6, 2) := by decide +kernel
theorem i_56_112 : gI 56 112 = some (.iadd, 1) := by decide +kernel
theorem i_56_113 : gI 56 113 = some (.invokevirtual 34, 3) := by decide +kernel
theorem v_56_34 : gIv 56 34 = some (15, 1, 1, 5, 548, 549, 550, 0, none) := jv_eq (by decide +kernel)
theorem i_56_116 : gI 56 116 = some (.iastore, 1) := by decide +kernel
theorem i_56_117 : gI 56 117 = some (.iinc 6 1, 3) := by decide +kernel
theorem i_56_120 : gI 56 120 = some (.goto (-23), 3) := by decide +kernel
theorem i_56_123 : gI 56 123 = some (.aload_n 0, 1) := by decide +kernel
theorem i_56_124 : gI 56 124 = some (.iconst 5, 1) := by decide +kernel
theorem i_56_125 : gI 56 125 = some (.invokevirtual 34, 3) := by decide +kernel
theorem i_56_128 : gI 56 128 = some (.istore 6, 2) := by decide +kernel
theorem i_56_130 : gI 56 130 = some (.aload_n 0, 1) := by decide +kernel
theorem i_56_131 : gI 56 131 = some (.bipush 6, 2) := by decide +kernel
theorem i_56_133 : gI 56 133 = some (.invokevirtual 34, 3) := by decide +kernel
theorem i_56_136 : gI 56 136 = some (.iconst 1, 1) := by decide +kernel
theorem i_56_137 : gI 56 137 = some (.if_icmp .ne 7, 3) := by decide +kernel
theorem i_56_140 : gI 56 140 = some (.iconst 1, 1) := by decide +kernel
theorem i_56_141 : gI 56 141 = some (.goto 4, 3) := by decide +kernel
theorem i_56_144 : gI 56 144 = some (.iconst 0, 1) := by decide +kernel
theorem i_56_145 : gI 56 145 = some (.istore 7, 2) := by decide +kernel
theorem i_56_147 : gI 56 147 = some (.aload_n 0, 1) := by decide +kernel
theorem i_56_148 : gI 56 148 = some (.bipush 8, 2) := by decide +kernel
theorem i_56_150 : gI 56 150 = some (.invokevirtual 34, 3) := by decide +kernel
theorem i_56_153 : gI 56 153 = some (.istore 8, 2) := by decide +kernel
theorem i_56_155 : gI 56 155 = some (.aload_n 0, 1) := by decide +kernel
theorem i_56_156 : gI 56 156 = some (.bipush 9, 2) := by decide +kernel
theorem i_56_158 : gI 56 158 = some (.invokevirtual 34, 3) := by decide +kernel
theorem i_56_161 : gI 56 161 = some (.istore 9, 2) := by decide +kernel
theorem i_56_163 : gI 56 163 = some (.aload_n 0, 1) := by decide +kernel
theorem i_56_164 : gI 56 164 = some (.iconst 0, 1) := by decide +kernel
theorem i_56_165 : gI 56 165 = some (.invokevirtual 34, 3) := by decide +kernel
theorem i_56_168 : gI 56 168 = some (.istore 10, 2) := by decide +kernel
theorem i_56_170 : gI 56 170 = some (.aload_n 0, 1) := by decide +kernel
theorem i_56_171 : gI 56 171 = some (.iconst 1, 1) := by decide +kernel
theorem i_56_172 : gI 56 172 = some (.invokevirtual 111, 3) := by decide +kernel
theorem v_56_111 : gIv 56 111 = some (54, 1, 1, 5, 708, 709, 710, 0, none) := jv_eq (by decide +kernel)
theorem i_56_175 : gI 56 175 = some (.istore 11, 2) := by decide +kernel
theorem i_56_177 : gI 56 177 = some (.iconst 0, 1) := by decide +kernel
theorem i_56_178 : gI 56 178 = some (.istore 12, 2) := by decide +kernel
theorem i_56_180 : gI 56 180 = some (.iconst 0, 1) := by decide +kernel
theorem i_56_181 : gI 56 181 = some (.istore 13, 2) := by decide +kernel
theorem i_56_183 : gI 56 183 = some (.iload 13, 2) := by decide +kernel
theorem i_56_185 : gI 56 185 = some (.iload_n 1, 1) := by decide +kernel
theorem i_56_186 : gI 56 186 = some (.if_icmp .ge 156, 3) := by decide +kernel
theorem i_56_189 : gI 56 189 = some (.aload_n 0, 1) := by decide +kernel
theorem i_56_190 : gI 56 190 = some (.iload 13, 2) := by decide +kernel
theorem i_56_192 : gI 56 192 = some (.iconst 2, 1) := by decide +kernel
theorem i_56_193 : gI 56 193 = some (.invokevirtual 37, 3) := by decide +kernel
theorem i_56_196 : gI 56 196 = some (.aload_n 2, 1) := by decide +kernel
theorem i_56_197 : gI 56 197 = some (.iload 13, 2) := by decide +kernel
theorem i_56_199 : gI 56 199 = some (.iaload, 1) := by decide +kernel
theorem i_56_200 : gI 56 200 = some (.isub, 1) := by decide +kernel
theorem i_56_201 : gI 56 201 = some (.invokestatic 114, 3) := by decide +kernel
theorem v_56_114 : gIv 56 114 = some (0, 1, 103, 0, 714, 715, 716, 49, none) := jv_eq (by decide +kernel)
theorem i_56_204 : gI 56 204 = some (.istore 14, 2) := by decide +kernel
theorem i_56_206 : gI 56 206 = some (.aload_n 0, 1) := by decide +kernel
theorem i_56_207 : gI 56 207 = some (.iload 13, 2) := by decide +kernel
theorem i_56_209 : gI 56 209 = some (.bipush 10, 2) := by decide +kernel
theorem i_56_211 : gI 56 211 = some (.invokevirtual 37, 3) := by decide +kernel
theorem i_56_214 : gI 56 214 = some (.iconst 1, 1) := by decide +kernel
theorem i_56_215 : gI 56 215 = some (.if_icmp .ne 8, 3) := by decide +kernel
theorem i_56_218 : gI 56 218 = some (.bipush 8, 2) := by decide +kernel
theorem i_56_220 : gI 56 220 = some (.goto 5, 3) := by decide +kernel
theorem i_56_223 : gI 56 223 = some (.bipush 6, 2) := by decide +kernel
theorem i_56_225 : gI 56 225 = some (.istore 15, 2) := by decide +kernel
theorem i_56_227 : gI 56 227 = some (.iload 12, 2) := by decide +kernel
theorem i_56_229 : gI 56 229 = some (.iload 14, 2) := by decide +kernel
theorem i_56_231 : gI 56 231 = some (.ifCond .le 7, 3) := by decide +kernel
theorem i_56_234 : gI 56 234 = some (.iconst 1, 1) := by decide +kernel
theorem i_56_235 : gI 56 235 = some (.goto 4, 3) := by decide +kernel
theorem i_56_238 : gI 56 238 = some (.iconst 0, 1) := by decide +kernel
theorem i_56_239 : gI 56 239 = some (.iadd, 1) := by decide +kernel
theorem i_56_240 : gI 56 240 = some (.istore 12, 2) := by decide +kernel
theorem i_56_242 : gI 56 242 = some (.iload 14, 2) := by decide +kernel
theorem i_56_244 : gI 56 244 = some (.iload 15, 2) := by decide +kernel
theorem i_56_246 : gI 56 246 = some (.if_icmp .gt 47, 3) := by decide +kernel
theorem i_56_249 : gI 56 249 = some (.aload_n 0, 1) := by decide +kernel
theorem i_56_250 : gI 56 250 = some (.iload 13, 2) := by decide +kernel
theorem i_56_252 : gI 56 252 = some (.bipush 11, 2) := by decide +kernel
theorem i_56_254 : gI 56 254 = some (.invokevirtual 37, 3) := by decide +kernel
theorem i_56_257 : gI 56 257 = some (.aload_n 3, 1) := by decide +kernel
theorem i_56_258 : gI 56 258 = some (.iload 13, 2) := by decide +kernel
theorem i_56_260 : gI 56 260 = some (.iaload, 1) := by decide +kernel
theorem i_56_261 : gI 56 261 = some (.iload 14, 2) := by decide +kernel
theorem i_56_263 : gI 56 263 = some (.iadd, 1) := by decide +kernel
theorem i_56_264 : gI 56 264 = some (.if_icmp .ne 29, 3) := by decide +kernel
theorem i_56_267 : gI 56 267 = some (.iload 14, 2) := by decide +kernel
theorem i_56_269 : gI 56 269 = some (.ifCond .le 26, 3) := by decide +kernel
theorem i_56_272 : gI 56 272 = some (.aload_n 0, 1) := by decide +kernel
theorem i_56_273 : gI 56 273 = some (.iload 13, 2) := by decide +kernel
theorem i_56_275 : gI 56 275 = some (.bipush 10, 2) := by decide +kernel
theorem i_56_277 : gI 56 277 = some (.invokevirtual 37, 3) := by decide +kernel
theorem i_56_280 : gI 56 280 = some (.ifCond .ne 15, 3) := by decide +kernel
theorem i_56_283 : gI 56 283 = some (.iload 6, 2) := by decide +kernel
theorem i_56_285 : gI 56 285 = some (.ifCond .lt 8, 3) := by decide +kernel
theorem i_56_288 : gI 56 288 = some (.iload 7, 2) := by decide +kernel
theorem i_56_290 : gI 56 290 = some (.ifCond .eq 5, 3) := by decide +kernel
theorem i_56_293 : gI 56 293 = some (.iconst (-1), 1) := by decide +kernel
theorem i_56_294 : gI 56 294 = some (.ireturn, 1) := by decide +kernel
theorem i_56_295 : gI 56 295 = some (.iconst 0, 1) := by decide +kernel
theorem i_56_296 : gI 56 296 = some (.istore 16, 2) := by decide +kernel
theorem i_56_298 : gI 56 298 = some (.iload 16, 2) := by decide +kernel
theorem i_56_300 : gI 56 300 = some (.iload_n 1, 1) := by decide +kernel
theorem i_56_301 : gI 56 301 = some (.if_icmp .ge 35, 3) := by decide +kernel
theorem i_56_304 : gI 56 304 = some (.aload_n 0, 1) := by decide +kernel
theorem i_56_305 : gI 56 305 = some (.iload 13, 2) := by decide +kernel
theorem i_56_307 : gI 56 307 = some (.iload 16, 2) := by decide +kernel
theorem i_56_309 : gI 56 309 = some (.invokevirtual 107, 3) := by decide +kernel
theorem i_56_312 : gI 56 312 = some (.ifCond .eq 18, 3) := by decide +kernel
theorem i_56_315 : gI 56 315 = some (.aload 4, 2) := by decide +kernel
theorem i_56_317 : gI 56 317 = some (.iload 13, 2) := by decide +kernel
theorem i_56_319 : gI 56 319 = some (.iaload, 1) := by decide +kernel
theorem i_56_320 : gI 56 320 = some (.iload 16, 2) := by decide +kernel
theorem i_56_322 : gI 56 322 = some (.ishr, 1) := by decide +kernel
theorem i_56_323 : gI 56 323 = some (.iconst 1, 1) := by decide +kernel
theorem i_56_324 : gI 56 324 = some (.iand, 1) := by decide +kernel
theorem i_56_325 : gI 56 325 = some (.ifCond .ne 5, 3) := by decide +kernel
theorem i_56_328 : gI 56 328 = some (.iconst (-1), 1) := by decide +kernel
theorem i_56_329 : gI 56 329 = some (.ireturn, 1) := by decide +kernel
theorem i_56_330 : gI 56 330 = some (.iinc 16 1, 3) := by decide +kernel
theorem i_56_333 : gI 56 333 = some (.goto (-35), 3) := by decide +kernel
theorem i_56_336 : gI 56 336 = some (.iinc 13 1, 3) := by decide +kernel
theorem i_56_339 : gI 56 339 = some (.goto (-156), 3) := by decide +kernel
theorem i_56_342 : gI 56 342 = some (.iconst 0, 1) := by decide +kernel
theorem i_56_343 : gI 56 343 = some (.istore 13, 2) := by decide +kernel
theorem i_56_345 : gI 56 345 = some (.iload 13, 2) := by decide +kernel
theorem i_56_347 : gI 56 347 = some (.iconst 5, 1) := by decide +kernel
theorem i_56_348 : gI 56 348 = some (.if_icmp .ge 28, 3) := by decide +kernel
theorem i_56_351 : gI 56 351 = some (.aload_n 0, 1) := by decide +kernel
theorem i_56_352 : gI 56 352 = some (.bipush 10, 2) := by decide +kernel
theorem i_56_354 : gI 56 354 = some (.iload 13, 2) := by decide +kernel
theorem i_56_356 : gI 56 356 = some (.iadd, 1) := by decide +kernel
theorem i_56_357 : gI 56 357 = some (.invokevirtual 34, 3) := by decide +kernel
theorem i_56_360 : gI 56 360 = some (.aload 5, 2) := by decide +kernel
theorem i_56_362 : gI 56 362 = some (.iload 13, 2) := by decide +kernel
theorem i_56_364 : gI 56 364 = some (.iaload, 1) := by decide +kernel
theorem i_56_365 : gI 56 365 = some (.if_icmp .ge 5, 3) := by decide +kernel
theorem i_56_368 : gI 56 368 = some (.iconst (-1), 1) := by decide +kernel
theorem i_56_369 : gI 56 369 = some (.ireturn, 1) := by decide +kernel
theorem i_56_370 : gI 56 370 = some (.iinc 13 1, 3) := by decide +kernel
theorem i_56_373 : gI 56 373 = some (.goto (-28), 3) := by decide +kernel
theorem i_56_376 : gI 56 376 = some (.iload 6, 2) := by decide +kernel
theorem i_56_378 : gI 56 378 = some (.ifCond .lt 12, 3) := by decide +kernel
theorem i_56_381 : gI 56 381 = some (.iload 7, 2) := by decide +kernel
theorem i_56_383 : gI 56 383 = some (.ifCond .ne 7, 3) := by decide +kernel
theorem i_56_386 : gI 56 386 = some (.iconst 1, 1) := by decide +kernel
theorem i_56_387 : gI 56 387 = some (.goto 4, 3) := by decide +kernel
theorem i_56_390 : gI 56 390 = some (.iconst 0, 1) := by decide +kernel
theorem i_56_391 : gI 56 391 = some (.istore 13, 2) := by decide +kernel
theorem i_56_393 : gI 56 393 = some (.iload 13, 2) := by decide +kernel
theorem i_56_395 : gI 56 395 = some (.ifCond .ne 49, 3) := by decide +kernel
theorem i_56_398 : gI 56 398 = some (.iload 11, 2) := by decide +kernel
theorem i_56_400 : gI 56 400 = some (.ifCond .gt 42, 3) := by decide +kernel
theorem i_56_403 : gI 56 403 = some (.aload_n 0, 1) := by decide +kernel
theorem i_56_404 : gI 56 404 = some (.bipush 10, 2) := by decide +kernel
theorem i_56_406 : gI 56 406 = some (.invokevirtual 34, 3) := by decide +kernel
theorem i_56_409 : gI 56 409 = some (.aload 5, 2) := by decide +kernel
theorem i_56_411 : gI 56 411 = some (.iconst 0, 1) := by decide +kernel
theorem i_56_412 : gI 56 412 = some (.iaload, 1) := by decide +kernel
theorem i_56_413 : gI 56 413 = some (.if_icmp .gt 29, 3) := by decide +kernel
theorem i_56_416 : gI 56 416 = some (.aload_n 0, 1) := by decide +kernel
theorem i_56_417 : gI 56 417 = some (.bipush 11, 2) := by decide +kernel
theorem i_56_419 : gI 56 419 = some (.invokevirtual 34, 3) := by decide +kernel
theorem i_56_422 : gI 56 422 = some (.aload 5, 2) := by decide +kernel
theorem i_56_424 : gI 56 424 = some (.iconst 1, 1) := by decide +kernel
theorem i_56_425 : gI 56 425 = some (.iaload, 1) := by decide +kernel
theorem i_56_426 : gI 56 426 = some (.if_icmp .gt 16, 3) := by decide +kernel
theorem i_56_429 : gI 56 429 = some (.aload_n 0, 1) := by decide +kernel
theorem i_56_430 : gI 56 430 = some (.bipush 14, 2) := by decide +kernel
theorem i_56_432 : gI 56 432 = some (.invokevirtual 34, 3) := by decide +kernel
theorem i_56_435 : gI 56 435 = some (.aload 5, 2) := by decide +kernel
theorem i_56_437 : gI 56 437 = some (.iconst 4, 1) := by decide +kernel
theorem i_56_438 : gI 56 438 = some (.iaload, 1) := by decide +kernel
theorem i_56_439 : gI 56 439 = some (.if_icmp .le 5, 3) := by decide +kernel
theorem i_56_442 : gI 56 442 = some (.iconst (-1), 1) := by decide +kernel
theorem i_56_443 : gI 56 443 = some (.ireturn, 1) := by decide +kernel
theorem i_56_444 : gI 56 444 = some (.aload_n 0, 1) := by decide +kernel
theorem i_56_445 : gI 56 445 = some (.iconst 0, 1) := by decide +kernel
theorem i_56_446 : gI 56 446 = some (.invokevirtual 34, 3) := by decide +kernel
theorem i_56_449 : gI 56 449 = some (.iload 10, 2) := by decide +kernel
theorem i_56_451 : gI 56 451 = some (.iconst 1, 1) := by decide +kernel
theorem i_56_452 : gI 56 452 = some (.iadd, 1) := by decide +kernel
theorem i_56_453 : gI 56 453 = some (.if_icmp .ne 97, 3) := by decide +kernel
theorem i_56_456 : gI 56 456 = some (.iload 11, 2) := by decide +kernel
theorem i_56_458 : gI 56 458 = some (.iload 8, 2) := by decide +kernel
theorem i_56_460 : gI 56 460 = some (.if_icmp .gt 90, 3) := by decide +kernel
theorem i_56_463 : gI 56 463 = some (.aload_n 0, 1) := by decide +kernel
theorem i_56_464 : gI 56 464 = some (.bipush 11, 2) := by decide +kernel
theorem i_56_466 : gI 56 466 = some (.invokevirtual 34, 3) := by decide +kernel
theorem i_56_469 : gI 56 469 = some (.aload 5, 2) := by decide +kernel
theorem i_56_471 : gI 56 471 = some (.iconst 1, 1) := by decide +kernel
theorem i_56_472 : gI 56 472 = some (.iaload, 1) := by decide +kernel
theorem i_56_473 : gI 56 473 = some (.iconst 1, 1) := by decide +kernel
theorem i_56_474 : gI 56 474 = some (.iadd, 1) := by decide +kernel
theorem i_56_475 : gI 56 475 = some (.if_icmp .gt 75, 3) := by decide +kernel
theorem i_56_478 : gI 56 478 = some (.aload_n 0, 1) := by decide +kernel
theorem i_56_479 : gI 56 479 = some (.bipush 11, 2) := by decide +kernel
theorem i_56_481 : gI 56 481 = some (.invokevirtual 34, 3) := by decide +kernel
theorem i_56_484 : gI 56 484 = some (.aload 5, 2) := by decide +kernel
theorem i_56_486 : gI 56 486 = some (.iconst 1, 1) := by decide +kernel
theorem i_56_487 : gI 56 487 = some (.iaload, 1) := by decide +kernel
theorem i_56_488 : gI 56 488 = some (.if_icmp .le 12, 3) := by decide +kernel
theorem i_56_491 : gI 56 491 = some (.aload_n 0, 1) := by decide +kernel
theorem i_56_492 : gI 56 492 = some (.bipush 6, 2) := by decide +kernel
theorem i_56_494 : gI 56 494 = some (.invokevirtual 34, 3) := by decide +kernel
theorem i_56_497 : gI 56 497 = some (.ifCond .eq 53, 3) := by decide +kernel
theorem i_56_500 : gI 56 500 = some (.aload_n 0, 1) := by decide +kernel
theorem i_56_501 : gI 56 501 = some (.bipush 12, 2) := by decide +kernel
theorem i_56_503 : gI 56 503 = some (.invokevirtual 34, 3) := by decide +kernel
theorem i_56_506 : gI 56 506 = some (.aload_n 0, 1) := by decide +kernel
theorem i_56_507 : gI 56 507 = some (.bipush 13, 2) := by decide +kernel
theorem i_56_509 : gI 56 509 = some (.invokevirtual 34, 3) := by decide +kernel
theorem i_56_512 : gI 56 512 = some (.iadd, 1) := by decide +kernel
theorem i_56_513 : gI 56 513 = some (.aload 5, 2) := by decide +kernel
theorem i_56_515 : gI 56 515 = some (.iconst 2, 1) := by decide +kernel
theorem i_56_516 : gI 56 516 = some (.iaload, 1) := by decide +kernel
theorem i_56_517 : gI 56 517 = some (.aload 5, 2) := by decide +kernel
theorem i_56_519 : gI 56 519 = some (.iconst 3, 1) := by decide +kernel
theorem i_56_520 : gI 56 520 = some (.iaload, 1) := by decide +kernel
theorem i_56_521 : gI 56 521 = some (.iadd, 1) := by decide +kernel
theorem i_56_522 : gI 56 522 = some (.iconst 2, 1) := by decide +kernel
theorem i_56_523 : gI 56 523 = some (.aload_n 0, 1) := by decide +kernel
theorem i_56_524 : gI 56 524 = some (.bipush 15, 2) := by decide +kernel
theorem i_56_526 : gI 56 526 = some (.invokevirtual 34, 3) := by decide +kernel
theorem i_56_529 : gI 56 529 = some (.invokestatic 117, 3) := by decide +kernel
theorem v_56_117 : gIv 56 117 = some (55, 1, 0, 0, 717, 718, 0, 0, none) := jv_eq (by decide +kernel)
theorem i_56_532 : gI 56 532 = some (.imul, 1) := by decide +kernel
theorem i_56_533 : gI 56 533 = some (.iadd, 1) := by decide +kernel
theorem i_56_534 : gI 56 534 = some (.if_icmp .gt 16, 3) := by decide +kernel
theorem i_56_537 : gI 56 537 = some (.aload_n 0, 1) := by decide +kernel
theorem i_56_538 : gI 56 538 = some (.bipush 9, 2) := by decide +kernel
theorem i_56_540 : gI 56 540 = some (.invokevirtual 34, 3) := by decide +kernel
theorem i_56_543 : gI 56 543 = some (.iload 9, 2) := by decide +kernel
theorem i_56_545 : gI 56 545 = some (.iconst 1, 1) := by decide +kernel
theorem i_56_546 : gI 56 546 = some (.iadd, 1) := by decide +kernel
theorem i_56_547 : gI 56 547 = some (.if_icmp .le 5, 3) := by decide +kernel
theorem i_56_550 : gI 56 550 = some (.iconst (-1), 1) := by decide +kernel
theorem i_56_551 : gI 56 551 = some (.ireturn, 1) := by decide +kernel
theorem i_56_552 : gI 56 552 = some (.aload_n 0, 1) := by decide +kernel
theorem i_56_553 : gI 56 553 = some (.bipush 9, 2) := by decide +kernel
theorem i_56_555 : gI 56 555 = some (.invokevirtual 34, 3) := by decide +kernel
theorem i_56_558 : gI 56 558 = some (.iload 9, 2) := by decide +kernel
theorem i_56_560 : gI 56 560 = some (.if_icmp .le 12, 3) := by decide +kernel
theorem i_56_563 : gI 56 563 = some (.iload 6, 2) := by decide +kernel
theorem i_56_565 : gI 56 565 = some (.ifCond .ge 7, 3) := by decide +kernel
theorem i_56_568 : gI 56 568 = some (.iconst (-1), 1) := by decide +kernel
theorem i_56_569 : gI 56 569 = some (.goto 5, 3) := by decide +kernel
theorem i_56_572 : gI 56 572 = some (.iload 11, 2) := by decide +kernel
theorem i_56_574 : gI 56 574 = some (.ireturn, 1) := by decide +kernel
theorem r_57 : gR 57 = some (.double) := by decide +kernel
theorem l_57 : gLo 57 = 3 := by decide +kernel
theorem i_57_0 : gI 57 0 = some (.aload_n 0, 1) := by decide +kernel
theorem i_57_1 : gI 57 1 = some (.getfield 10, 3) := by decide +kernel
theorem f_57_10 : gFld 57 10 = some (5, 0, 290, none, "FlyTower") := by decide +kernel
theorem i_57_4 : gI 57 4 = some (.getfield 37, 3) := by decide +kernel
theorem f_57_37 : gFld 57 37 = some (4, 1, 200, some "FlyTower", "FlyTower$Rig") := by decide +kernel
theorem i_57_7 : gI 57 7 = some (.ifCond .ne 5, 3) := by decide +kernel
theorem i_57_10 : gI 57 10 = some (.dconst 0, 1) := by decide +kernel
theorem i_57_11 : gI 57 11 = some (.dreturn, 1) := by decide +kernel
theorem i_57_12 : gI 57 12 = some (.iconst 0, 1) := by decide +kernel
theorem i_57_13 : gI 57 13 = some (.istore_n 1, 1) := by decide +kernel
theorem i_57_14 : gI 57 14 = some (.iconst 0, 1) := by decide +kernel
theorem i_57_15 : gI 57 15 = some (.istore_n 2, 1) := by decide +kernel
theorem i_57_16 : gI 57 16 = some (.iload_n 2, 1) := by decide +kernel
theorem i_57_17 : gI 57 17 = some (.aload_n 0, 1) := by decide +kernel
theorem i_57_18 : gI 57 18 = some (.getfield 10, 3) := by decide +kernel
theorem i_57_21 : gI 57 21 = some (.getfield 37, 3) := by decide +kernel
theorem i_57_24 : gI 57 24 = some (.if_icmp .ge 24, 3) := by decide +kernel
theorem i_57_27 : gI 57 27 = some (.iload_n 1, 1) := by decide +kernel
theorem i_57_28 : gI 57 28 = some (.aload_n 0, 1) := by decide +kernel
theorem i_57_29 : gI 57 29 = some (.getfield 10, 3) := by decide +kernel
theorem i_57_32 : gI 57 32 = some (.getfield 46, 3) := by decide +kernel
theorem f_57_46 : gFld 57 46 = some (4, 0, 198, some "FlyTower", "FlyTower$Rig") := by decide +kernel
theorem i_57_35 : gI 57 35 = some (.iload_n 2, 1) := by decide +kernel
theorem i_57_36 : gI 57 36 = some (.aaload, 1) := by decide +kernel
theorem i_57_37 : gI 57 37 = some (.getfield 223, 3) := by decide +kernel
theorem f_57_223 : gFld 57 223 = some (0, 3, 84, some "FlyTower", "FlyTower$Bar") := by decide +kernel
theorem i_57_40 : gI 57 40 = some (.iadd, 1) := by decide +kernel
theorem i_57_41 : gI 57 41 = some (.istore_n 1, 1) := by decide +kernel
theorem i_57_42 : gI 57 42 = some (.iinc 2 1, 3) := by decide +kernel
theorem i_57_45 : gI 57 45 = some (.goto (-29), 3) := by decide +kernel
theorem i_57_48 : gI 57 48 = some (.iload_n 1, 1) := by decide +kernel
theorem i_57_49 : gI 57 49 = some (.i2d, 1) := by decide +kernel
theorem i_57_50 : gI 57 50 = some (.aload_n 0, 1) := by decide +kernel
theorem i_57_51 : gI 57 51 = some (.getfield 10, 3) := by decide +kernel
theorem i_57_54 : gI 57 54 = some (.getfield 37, 3) := by decide +kernel
theorem i_57_57 : gI 57 57 = some (.i2d, 1) := by decide +kernel
theorem i_57_58 : gI 57 58 = some (.ddiv, 1) := by decide +kernel
theorem i_57_59 : gI 57 59 = some (.dreturn, 1) := by decide +kernel
theorem r_58 : gR 58 = none := by decide +kernel
theorem l_58 : gLo 58 = 2 := by decide +kernel
theorem i_58_0 : gI 58 0 = some (.aload_n 0, 1) := by decide +kernel
theorem i_58_1 : gI 58 1 = some (.aload_n 1, 1) := by decide +kernel
theorem i_58_2 : gI 58 2 = some (.getfield 17, 3) := by decide +kernel
theorem f_58_17 : gFld 58 17 = some (0, 1, 77, none, "FlyTower$Bar") := by decide +kernel
theorem i_58_5 : gI 58 5 = some (.putfield 17, 3) := by decide +kernel
theorem i_58_8 : gI 58 8 = some (.aload_n 0, 1) := by decide +kernel
theorem i_58_9 : gI 58 9 = some (.aload_n 1, 1) := by decide +kernel
theorem i_58_10 : gI 58 10 = some (.getfield 20, 3) := by decide +kernel
theorem f_58_20 : gFld 58 20 = some (0, 2, 80, none, "FlyTower$Bar") := by decide +kernel
theorem i_58_13 : gI 58 13 = some (.putfield 20, 3) := by decide +kernel
theorem i_58_16 : gI 58 16 = some (.aload_n 0, 1) := by decide +kernel
theorem i_58_17 : gI 58 17 = some (.aload_n 1, 1) := by decide +kernel
theorem i_58_18 : gI 58 18 = some (.getfield 23, 3) := by decide +kernel
theorem f_58_23 : gFld 58 23 = some (0, 3, 82, none, "FlyTower$Bar") := by decide +kernel
theorem i_58_21 : gI 58 21 = some (.putfield 23, 3) := by decide +kernel
theorem i_58_24 : gI 58 24 = some (.aload_n 0, 1) := by decide +kernel
theorem i_58_25 : gI 58 25 = some (.aload_n 1, 1) := by decide +kernel
theorem i_58_26 : gI 58 26 = some (.getfield 26, 3) := by decide +kernel
theorem f_58_26 : gFld 58 26 = some (0, 4, 85, none, "FlyTower$Bar") := by decide +kernel
theorem i_58_29 : gI 58 29 = some (.putfield 26, 3) := by decide +kernel
theorem i_58_32 : gI 58 32 = some (.aload_n 0, 1) := by decide +kernel
theorem i_58_33 : gI 58 33 = some (.aload_n 1, 1) := by decide +kernel
theorem i_58_34 : gI 58 34 = some (.getfield 29, 3) := by decide +kernel
theorem f_58_29 : gFld 58 29 = some (0, 5, 87, none, "FlyTower$Bar") := by decide +kernel
theorem i_58_37 : gI 58 37 = some (.putfield 29, 3) := by decide +kernel
theorem i_58_40 : gI 58 40 = some (.aload_n 0, 1) := by decide +kernel
theorem i_58_41 : gI 58 41 = some (.aload_n 1, 1) := by decide +kernel
theorem i_58_42 : gI 58 42 = some (.getfield 32, 3) := by decide +kernel
theorem f_58_32 : gFld 58 32 = some (0, 6, 89, none, "FlyTower$Bar") := by decide +kernel
theorem i_58_45 : gI 58 45 = some (.putfield 32, 3) := by decide +kernel
theorem i_58_48 : gI 58 48 = some (.aload_n 0, 1) := by decide +kernel
theorem i_58_49 : gI 58 49 = some (.aload_n 1, 1) := by decide +kernel
theorem i_58_50 : gI 58 50 = some (.getfield 35, 3) := by decide +kernel
theorem f_58_35 : gFld 58 35 = some (0, 7, 91, none, "FlyTower$Bar") := by decide +kernel
theorem i_58_53 : gI 58 53 = some (.putfield 35, 3) := by decide +kernel
theorem i_58_56 : gI 58 56 = some (.aload_n 0, 1) := by decide +kernel
theorem i_58_57 : gI 58 57 = some (.aload_n 1, 1) := by decide +kernel
theorem i_58_58 : gI 58 58 = some (.getfield 38, 3) := by decide +kernel
theorem f_58_38 : gFld 58 38 = some (0, 8, 93, none, "FlyTower$Bar") := by decide +kernel
theorem i_58_61 : gI 58 61 = some (.putfield 38, 3) := by decide +kernel
theorem i_58_64 : gI 58 64 = some (.aload_n 0, 1) := by decide +kernel
theorem i_58_65 : gI 58 65 = some (.aload_n 1, 1) := by decide +kernel
theorem i_58_66 : gI 58 66 = some (.getfield 7, 3) := by decide +kernel
theorem f_58_7 : gFld 58 7 = some (0, 9, 96, none, "FlyTower$Bar") := by decide +kernel
theorem i_58_69 : gI 58 69 = some (.putfield 7, 3) := by decide +kernel
theorem i_58_72 : gI 58 72 = some (.aload_n 0, 1) := by decide +kernel
theorem i_58_73 : gI 58 73 = some (.aload_n 1, 1) := by decide +kernel
theorem i_58_74 : gI 58 74 = some (.getfield 41, 3) := by decide +kernel
theorem f_58_41 : gFld 58 41 = some (0, 10, 99, none, "FlyTower$Bar") := by decide +kernel
theorem i_58_77 : gI 58 77 = some (.putfield 41, 3) := by decide +kernel
theorem i_58_80 : gI 58 80 = some (.aload_n 0, 1) := by decide +kernel
theorem i_58_81 : gI 58 81 = some (.aload_n 1, 1) := by decide +kernel
theorem i_58_82 : gI 58 82 = some (.getfield 44, 3) := by decide +kernel
theorem f_58_44 : gFld 58 44 = some (0, 11, 102, none, "FlyTower$Bar") := by decide +kernel
theorem i_58_85 : gI 58 85 = some (.putfield 44, 3) := by decide +kernel
theorem i_58_88 : gI 58 88 = some (.aload_n 0, 1) := by decide +kernel
theorem i_58_89 : gI 58 89 = some (.aload_n 1, 1) := by decide +kernel
theorem i_58_90 : gI 58 90 = some (.getfield 47, 3) := by decide +kernel
theorem f_58_47 : gFld 58 47 = some (0, 12, 104, none, "FlyTower$Bar") := by decide +kernel
theorem i_58_93 : gI 58 93 = some (.putfield 47, 3) := by decide +kernel
theorem i_58_96 : gI 58 96 = some (.return_, 1) := by decide +kernel
theorem r_59 : gR 59 = none := by decide +kernel
theorem l_59 : gLo 59 = 2 := by decide +kernel
theorem i_59_0 : gI 59 0 = some (.aload_n 0, 1) := by decide +kernel
theorem i_59_1 : gI 59 1 = some (.aload_n 1, 1) := by decide +kernel
theorem i_59_2 : gI 59 2 = some (.getfield 15, 3) := by decide +kernel
theorem f_59_15 : gFld 59 15 = some (2, 0, 147, none, "FlyTower$Move") := by decide +kernel
theorem i_59_5 : gI 59 5 = some (.putfield 15, 3) := by decide +kernel
theorem i_59_8 : gI 59 8 = some (.aload_n 0, 1) := by decide +kernel
theorem i_59_9 : gI 59 9 = some (.aload_n 1, 1) := by decide +kernel
theorem i_59_10 : gI 59 10 = some (.getfield 18, 3) := by decide +kernel
theorem f_59_18 : gFld 59 18 = some (2, 1, 151, none, "FlyTower$Move") := by decide +kernel
theorem i_59_13 : gI 59 13 = some (.putfield 18, 3) := by decide +kernel
theorem i_59_16 : gI 59 16 = some (.aload_n 0, 1) := by decide +kernel
theorem i_59_17 : gI 59 17 = some (.aload_n 1, 1) := by decide +kernel
theorem i_59_18 : gI 59 18 = some (.getfield 21, 3) := by decide +kernel
theorem f_59_21 : gFld 59 21 = some (2, 2, 154, none, "FlyTower$Move") := by decide +kernel
theorem i_59_21 : gI 59 21 = some (.putfield 21, 3) := by decide +kernel
theorem i_59_24 : gI 59 24 = some (.aload_n 0, 1) := by decide +kernel
theorem i_59_25 : gI 59 25 = some (.aload_n 1, 1) := by decide +kernel
theorem i_59_26 : gI 59 26 = some (.getfield 24, 3) := by decide +kernel
theorem f_59_24 : gFld 59 24 = some (2, 3, 157, none, "FlyTower$Move") := by decide +kernel
theorem i_59_29 : gI 59 29 = some (.putfield 24, 3) := by decide +kernel
theorem i_59_32 : gI 59 32 = some (.aload_n 0, 1) := by decide +kernel
theorem i_59_33 : gI 59 33 = some (.aload_n 1, 1) := by decide +kernel
theorem i_59_34 : gI 59 34 = some (.getfield 9, 3) := by decide +kernel
theorem f_59_9 : gFld 59 9 = some (2, 4, 160, none, "FlyTower$Move") := by decide +kernel
theorem i_59_37 : gI 59 37 = some (.putfield 9, 3) := by decide +kernel
theorem i_59_40 : gI 59 40 = some (.aload_n 0, 1) := by decide +kernel
theorem i_59_41 : gI 59 41 = some (.aload_n 1, 1) := by decide +kernel
theorem i_59_42 : gI 59 42 = some (.getfield 27, 3) := by decide +kernel
theorem f_59_27 : gFld 59 27 = some (2, 5, 164, none, "FlyTower$Move") := by decide +kernel
theorem i_59_45 : gI 59 45 = some (.putfield 27, 3) := by decide +kernel
theorem i_59_48 : gI 59 48 = some (.return_, 1) := by decide +kernel
theorem r_60 : gR 60 = none := by decide +kernel
theorem l_60 : gLo 60 = 3 := by decide +kernel
theorem i_60_0 : gI 60 0 = some (.aload_n 0, 1) := by decide +kernel
theorem i_60_1 : gI 60 1 = some (.aload_n 1, 1) := by decide +kernel
theorem i_60_2 : gI 60 2 = some (.getfield 9, 3) := by decide +kernel
theorem f_60_9 : gFld 60 9 = some (1, 2, 187, none, "FlyTower$Cue") := by decide +kernel
theorem i_60_5 : gI 60 5 = some (.putfield 9, 3) := by decide +kernel
theorem i_60_8 : gI 60 8 = some (.aload_n 0, 1) := by decide +kernel
theorem i_60_9 : gI 60 9 = some (.aload_n 1, 1) := by decide +kernel
theorem i_60_10 : gI 60 10 = some (.getfield 22, 3) := by decide +kernel
theorem f_60_22 : gFld 60 22 = some (1, 1, 184, none, "FlyTower$Cue") := by decide +kernel
theorem i_60_13 : gI 60 13 = some (.putfield 22, 3) := by decide +kernel
theorem i_60_16 : gI 60 16 = some (.iconst 0, 1) := by decide +kernel
theorem i_60_17 : gI 60 17 = some (.istore_n 2, 1) := by decide +kernel
theorem i_60_18 : gI 60 18 = some (.iload_n 2, 1) := by decide +kernel
theorem i_60_19 : gI 60 19 = some (.aload_n 0, 1) := by decide +kernel
theorem i_60_20 : gI 60 20 = some (.getfield 22, 3) := by decide +kernel
theorem i_60_23 : gI 60 23 = some (.if_icmp .ge 24, 3) := by decide +kernel
theorem i_60_26 : gI 60 26 = some (.aload_n 0, 1) := by decide +kernel
theorem i_60_27 : gI 60 27 = some (.getfield 17, 3) := by decide +kernel
theorem f_60_17 : gFld 60 17 = some (1, 0, 181, none, "FlyTower$Cue") := by decide +kernel
theorem i_60_30 : gI 60 30 = some (.iload_n 2, 1) := by decide +kernel
theorem i_60_31 : gI 60 31 = some (.aaload, 1) := by decide +kernel
theorem i_60_32 : gI 60 32 = some (.aload_n 1, 1) := by decide +kernel
theorem i_60_33 : gI 60 33 = some (.getfield 17, 3) := by decide +kernel
theorem i_60_36 : gI 60 36 = some (.iload_n 2, 1) := by decide +kernel
theorem i_60_37 : gI 60 37 = some (.aaload, 1) := by decide +kernel
theorem i_60_38 : gI 60 38 = some (.invokevirtual 25, 3) := by decide +kernel
theorem v_60_25 : gIv 60 25 = some (59, 1, 4, 2, 587, 589, 20, 0, some "FlyTower") := jv_eq (by decide +kernel)
theorem i_60_41 : gI 60 41 = some (.iinc 2 1, 3) := by decide +kernel
theorem i_60_44 : gI 60 44 = some (.goto (-26), 3) := by decide +kernel
theorem i_60_47 : gI 60 47 = some (.return_, 1) := by decide +kernel
theorem r_61 : gR 61 = none := by decide +kernel
theorem l_61 : gLo 61 = 3 := by decide +kernel
theorem i_61_0 : gI 61 0 = some (.aload_n 0, 1) := by decide +kernel
theorem i_61_1 : gI 61 1 = some (.aload_n 1, 1) := by decide +kernel
theorem i_61_2 : gI 61 2 = some (.getfield 37, 3) := by decide +kernel
theorem f_61_37 : gFld 61 37 = some (4, 1, 199, none, "FlyTower$Rig") := by decide +kernel
theorem i_61_5 : gI 61 5 = some (.putfield 37, 3) := by decide +kernel
theorem i_61_8 : gI 61 8 = some (.iconst 0, 1) := by decide +kernel
theorem i_61_9 : gI 61 9 = some (.istore_n 2, 1) := by decide +kernel
theorem i_61_10 : gI 61 10 = some (.iload_n 2, 1) := by decide +kernel
theorem i_61_11 : gI 61 11 = some (.aload_n 0, 1) := by decide +kernel
theorem i_61_12 : gI 61 12 = some (.getfield 37, 3) := by decide +kernel
theorem i_61_15 : gI 61 15 = some (.if_icmp .ge 24, 3) := by decide +kernel
theorem i_61_18 : gI 61 18 = some (.aload_n 0, 1) := by decide +kernel
theorem i_61_19 : gI 61 19 = some (.getfield 23, 3) := by decide +kernel
theorem f_61_23 : gFld 61 23 = some (4, 0, 197, none, "FlyTower$Rig") := by decide +kernel
theorem i_61_22 : gI 61 22 = some (.iload_n 2, 1) := by decide +kernel
theorem i_61_23 : gI 61 23 = some (.aaload, 1) := by decide +kernel
theorem i_61_24 : gI 61 24 = some (.aload_n 1, 1) := by decide +kernel
theorem i_61_25 : gI 61 25 = some (.getfield 23, 3) := by decide +kernel
theorem i_61_28 : gI 61 28 = some (.iload_n 2, 1) := by decide +kernel
theorem i_61_29 : gI 61 29 = some (.aaload, 1) := by decide +kernel
theorem i_61_30 : gI 61 30 = some (.invokevirtual 40, 3) := by decide +kernel
theorem v_61_40 : gIv 61 40 = some (58, 1, 4, 0, 579, 581, 18, 0, some "FlyTower") := jv_eq (by decide +kernel)
theorem i_61_33 : gI 61 33 = some (.iinc 2 1, 3) := by decide +kernel
theorem i_61_36 : gI 61 36 = some (.goto (-26), 3) := by decide +kernel
theorem i_61_39 : gI 61 39 = some (.aload_n 0, 1) := by decide +kernel
theorem i_61_40 : gI 61 40 = some (.aload_n 1, 1) := by decide +kernel
theorem i_61_41 : gI 61 41 = some (.getfield 44, 3) := by decide +kernel
theorem f_61_44 : gFld 61 44 = some (4, 3, 203, none, "FlyTower$Rig") := by decide +kernel
theorem i_61_44 : gI 61 44 = some (.putfield 44, 3) := by decide +kernel
theorem i_61_47 : gI 61 47 = some (.iconst 0, 1) := by decide +kernel
theorem i_61_48 : gI 61 48 = some (.istore_n 2, 1) := by decide +kernel
theorem i_61_49 : gI 61 49 = some (.iload_n 2, 1) := by decide +kernel
theorem i_61_50 : gI 61 50 = some (.aload_n 0, 1) := by decide +kernel
theorem i_61_51 : gI 61 51 = some (.getfield 44, 3) := by decide +kernel
theorem i_61_54 : gI 61 54 = some (.if_icmp .ge 24, 3) := by decide +kernel
theorem i_61_57 : gI 61 57 = some (.aload_n 0, 1) := by decide +kernel
theorem i_61_58 : gI 61 58 = some (.getfield 32, 3) := by decide +kernel
theorem f_61_32 : gFld 61 32 = some (4, 2, 201, none, "FlyTower$Rig") := by decide +kernel
theorem i_61_61 : gI 61 61 = some (.iload_n 2, 1) := by decide +kernel
theorem i_61_62 : gI 61 62 = some (.aaload, 1) := by decide +kernel
theorem i_61_63 : gI 61 63 = some (.aload_n 1, 1) := by decide +kernel
theorem i_61_64 : gI 61 64 = some (.getfield 32, 3) := by decide +kernel
theorem i_61_67 : gI 61 67 = some (.iload_n 2, 1) := by decide +kernel
theorem i_61_68 : gI 61 68 = some (.aaload, 1) := by decide +kernel
theorem i_61_69 : gI 61 69 = some (.invokevirtual 47, 3) := by decide +kernel
theorem v_61_47 : gIv 61 47 = some (60, 1, 4, 1, 583, 585, 19, 0, some "FlyTower") := jv_eq (by decide +kernel)
theorem i_61_72 : gI 61 72 = some (.iinc 2 1, 3) := by decide +kernel
theorem i_61_75 : gI 61 75 = some (.goto (-26), 3) := by decide +kernel
theorem i_61_78 : gI 61 78 = some (.aload_n 0, 1) := by decide +kernel
theorem i_61_79 : gI 61 79 = some (.aload_n 1, 1) := by decide +kernel
theorem i_61_80 : gI 61 80 = some (.getfield 9, 3) := by decide +kernel
theorem f_61_9 : gFld 61 9 = some (4, 4, 205, none, "FlyTower$Rig") := by decide +kernel
theorem i_61_83 : gI 61 83 = some (.putfield 9, 3) := by decide +kernel
theorem i_61_86 : gI 61 86 = some (.aload_n 0, 1) := by decide +kernel
theorem i_61_87 : gI 61 87 = some (.aload_n 1, 1) := by decide +kernel
theorem i_61_88 : gI 61 88 = some (.getfield 50, 3) := by decide +kernel
theorem f_61_50 : gFld 61 50 = some (4, 5, 207, none, "FlyTower$Rig") := by decide +kernel
theorem i_61_91 : gI 61 91 = some (.putfield 50, 3) := by decide +kernel
theorem i_61_94 : gI 61 94 = some (.aload_n 0, 1) := by decide +kernel
theorem i_61_95 : gI 61 95 = some (.aload_n 1, 1) := by decide +kernel
theorem i_61_96 : gI 61 96 = some (.getfield 53, 3) := by decide +kernel
theorem f_61_53 : gFld 61 53 = some (4, 6, 208, none, "FlyTower$Rig") := by decide +kernel
theorem i_61_99 : gI 61 99 = some (.putfield 53, 3) := by decide +kernel
theorem i_61_102 : gI 61 102 = some (.aload_n 0, 1) := by decide +kernel
theorem i_61_103 : gI 61 103 = some (.aload_n 1, 1) := by decide +kernel
theorem i_61_104 : gI 61 104 = some (.getfield 15, 3) := by decide +kernel
theorem f_61_15 : gFld 61 15 = some (4, 7, 210, none, "FlyTower$Rig") := by decide +kernel
theorem i_61_107 : gI 61 107 = some (.putfield 15, 3) := by decide +kernel
theorem i_61_110 : gI 61 110 = some (.aload_n 0, 1) := by decide +kernel
theorem i_61_111 : gI 61 111 = some (.aload_n 1, 1) := by decide +kernel
theorem i_61_112 : gI 61 112 = some (.getfield 56, 3) := by decide +kernel
theorem f_61_56 : gFld 61 56 = some (4, 8, 212, none, "FlyTower$Rig") := by decide +kernel
theorem i_61_115 : gI 61 115 = some (.putfield 56, 3) := by decide +kernel
theorem i_61_118 : gI 61 118 = some (.aload_n 0, 1) := by decide +kernel
theorem i_61_119 : gI 61 119 = some (.aload_n 1, 1) := by decide +kernel
theorem i_61_120 : gI 61 120 = some (.getfield 60, 3) := by decide +kernel
theorem f_61_60 : gFld 61 60 = some (4, 9, 214, none, "FlyTower$Rig") := by decide +kernel
theorem i_61_123 : gI 61 123 = some (.putfield 60, 3) := by decide +kernel
theorem i_61_126 : gI 61 126 = some (.aload_n 0, 1) := by decide +kernel
theorem i_61_127 : gI 61 127 = some (.aload_n 1, 1) := by decide +kernel
theorem i_61_128 : gI 61 128 = some (.getfield 63, 3) := by decide +kernel
theorem f_61_63 : gFld 61 63 = some (4, 10, 216, none, "FlyTower$Rig") := by decide +kernel
theorem i_61_131 : gI 61 131 = some (.putfield 63, 3) := by decide +kernel
theorem i_61_134 : gI 61 134 = some (.aload_n 0, 1) := by decide +kernel
theorem i_61_135 : gI 61 135 = some (.aload_n 1, 1) := by decide +kernel
theorem i_61_136 : gI 61 136 = some (.getfield 66, 3) := by decide +kernel
theorem f_61_66 : gFld 61 66 = some (4, 11, 218, none, "FlyTower$Rig") := by decide +kernel
theorem i_61_139 : gI 61 139 = some (.putfield 66, 3) := by decide +kernel
theorem i_61_142 : gI 61 142 = some (.aload_n 0, 1) := by decide +kernel
theorem i_61_143 : gI 61 143 = some (.aload_n 1, 1) := by decide +kernel
theorem i_61_144 : gI 61 144 = some (.getfield 69, 3) := by decide +kernel
theorem f_61_69 : gFld 61 69 = some (4, 12, 220, none, "FlyTower$Rig") := by decide +kernel
theorem i_61_147 : gI 61 147 = some (.putfield 69, 3) := by decide +kernel
theorem i_61_150 : gI 61 150 = some (.aload_n 0, 1) := by decide +kernel
theorem i_61_151 : gI 61 151 = some (.aload_n 1, 1) := by decide +kernel
theorem i_61_152 : gI 61 152 = some (.getfield 72, 3) := by decide +kernel
theorem f_61_72 : gFld 61 72 = some (4, 13, 222, none, "FlyTower$Rig") := by decide +kernel
theorem i_61_155 : gI 61 155 = some (.putfield 72, 3) := by decide +kernel
theorem i_61_158 : gI 61 158 = some (.aload_n 0, 1) := by decide +kernel
theorem i_61_159 : gI 61 159 = some (.aload_n 1, 1) := by decide +kernel
theorem i_61_160 : gI 61 160 = some (.getfield 75, 3) := by decide +kernel
theorem f_61_75 : gFld 61 75 = some (4, 14, 224, none, "FlyTower$Rig") := by decide +kernel
theorem i_61_163 : gI 61 163 = some (.putfield 75, 3) := by decide +kernel
theorem i_61_166 : gI 61 166 = some (.aload_n 0, 1) := by decide +kernel
theorem i_61_167 : gI 61 167 = some (.aload_n 1, 1) := by decide +kernel
theorem i_61_168 : gI 61 168 = some (.getfield 78, 3) := by decide +kernel
theorem f_61_78 : gFld 61 78 = some (4, 15, 226, none, "FlyTower$Rig") := by decide +kernel
theorem i_61_171 : gI 61 171 = some (.putfield 78, 3) := by decide +kernel
theorem i_61_174 : gI 61 174 = some (.aload_n 0, 1) := by decide +kernel
theorem i_61_175 : gI 61 175 = some (.aload_n 1, 1) := by decide +kernel
theorem i_61_176 : gI 61 176 = some (.getfield 81, 3) := by decide +kernel
theorem f_61_81 : gFld 61 81 = some (4, 16, 228, none, "FlyTower$Rig") := by decide +kernel
theorem i_61_179 : gI 61 179 = some (.putfield 81, 3) := by decide +kernel
theorem i_61_182 : gI 61 182 = some (.aload_n 0, 1) := by decide +kernel
theorem i_61_183 : gI 61 183 = some (.iconst (-1), 1) := by decide +kernel
theorem i_61_184 : gI 61 184 = some (.putfield 18, 3) := by decide +kernel
theorem f_61_18 : gFld 61 18 = some (4, 17, 230, none, "FlyTower$Rig") := by decide +kernel
theorem i_61_187 : gI 61 187 = some (.return_, 1) := by decide +kernel
theorem r_62 : gR 62 = none := by decide +kernel
theorem l_62 : gLo 62 = 2 := by decide +kernel
theorem i_62_0 : gI 62 0 = some (.iconst 0, 1) := by decide +kernel
theorem i_62_1 : gI 62 1 = some (.istore_n 1, 1) := by decide +kernel
theorem i_62_2 : gI 62 2 = some (.iload_n 1, 1) := by decide +kernel
theorem i_62_3 : gI 62 3 = some (.aload_n 0, 1) := by decide +kernel
theorem i_62_4 : gI 62 4 = some (.getfield 37, 3) := by decide +kernel
theorem f_62_37 : gFld 62 37 = some (4, 1, 199, none, "FlyTower$Rig") := by decide +kernel
theorem i_62_7 : gI 62 7 = some (.if_icmp .ge 19, 3) := by decide +kernel
theorem i_62_10 : gI 62 10 = some (.aload_n 0, 1) := by decide +kernel
theorem i_62_11 : gI 62 11 = some (.getfield 23, 3) := by decide +kernel
theorem f_62_23 : gFld 62 23 = some (4, 0, 197, none, "FlyTower$Rig") := by decide +kernel
theorem i_62_14 : gI 62 14 = some (.iload_n 1, 1) := by decide +kernel
theorem i_62_15 : gI 62 15 = some (.aaload, 1) := by decide +kernel
theorem i_62_16 : gI 62 16 = some (.iconst 0, 1) := by decide +kernel
theorem i_62_17 : gI 62 17 = some (.putfield 93, 3) := by decide +kernel
theorem f_62_93 : gFld 62 93 = some (0, 10, 100, some "FlyTower", "FlyTower$Bar") := by decide +kernel
theorem i_62_20 : gI 62 20 = some (.iinc 1 1, 3) := by decide +kernel
theorem i_62_23 : gI 62 23 = some (.goto (-21), 3) := by decide +kernel
theorem i_62_26 : gI 62 26 = some (.return_, 1) := by decide +kernel
theorem r_63 : gR 63 = some (.int) := by decide +kernel
theorem l_63 : gLo 63 = 3 := by decide +kernel
theorem i_63_0 : gI 63 0 = some (.aload_n 0, 1) := by decide +kernel
theorem i_63_1 : gI 63 1 = some (.getfield 16, 3) := by decide +kernel
theorem f_63_16 : gFld 63 16 = some (5, 1, 291, none, "FlyTower") := by decide +kernel
theorem i_63_4 : gI 63 4 = some (.aload_n 0, 1) := by decide +kernel
theorem i_63_5 : gI 63 5 = some (.getfield 10, 3) := by decide +kernel
theorem f_63_10 : gFld 63 10 = some (5, 0, 290, none, "FlyTower") := by decide +kernel
theorem i_63_8 : gI 63 8 = some (.invokevirtual 288, 3) := by decide +kernel
theorem v_63_288 : gIv 63 288 = some (61, 1, 4, 4, 575, 577, 17, 0, some "FlyTower") := jv_eq (by decide +kernel)
theorem i_63_11 : gI 63 11 = some (.aload_n 0, 1) := by decide +kernel
theorem i_63_12 : gI 63 12 = some (.getfield 16, 3) := by decide +kernel
theorem i_63_15 : gI 63 15 = some (.invokevirtual 343, 3) := by decide +kernel
theorem v_63_343 : gIv 63 343 = some (62, 0, 4, 4, 591, 593, 21, 0, some "FlyTower") := jv_eq (by decide +kernel)
theorem i_63_18 : gI 63 18 = some (.aload_n 0, 1) := by decide +kernel
theorem i_63_19 : gI 63 19 = some (.getfield 16, 3) := by decide +kernel
theorem i_63_22 : gI 63 22 = some (.iload_n 1, 1) := by decide +kernel
theorem i_63_23 : gI 63 23 = some (.invokevirtual 191, 3) := by decide +kernel
theorem v_63_191 : gIv 63 191 = some (35, 1, 4, 4, 488, 490, 7, 0, some "FlyTower") := jv_eq (by decide +kernel)
theorem i_63_26 : gI 63 26 = some (.iconst 1, 1) := by decide +kernel
theorem i_63_27 : gI 63 27 = some (.istore_n 2, 1) := by decide +kernel
theorem i_63_28 : gI 63 28 = some (.iload_n 2, 1) := by decide +kernel
theorem i_63_29 : gI 63 29 = some (.sipush 200, 3) := by decide +kernel
theorem i_63_32 : gI 63 32 = some (.if_icmp .gt 47, 3) := by decide +kernel
theorem i_63_35 : gI 63 35 = some (.aload_n 0, 1) := by decide +kernel
theorem i_63_36 : gI 63 36 = some (.getfield 16, 3) := by decide +kernel
theorem i_63_39 : gI 63 39 = some (.invokevirtual 220, 3) := by decide +kernel
theorem v_63_220 : gIv 63 220 = some (53, 0, 4, 4, 595, 597, 22, 0, some "FlyTower") := jv_eq (by decide +kernel)
theorem i_63_42 : gI 63 42 = some (.aload_n 0, 1) := by decide +kernel
theorem i_63_43 : gI 63 43 = some (.getfield 16, 3) := by decide +kernel
theorem i_63_46 : gI 63 46 = some (.getfield 198, 3) := by decide +kernel
theorem f_63_198 : gFld 63 198 = some (4, 8, 213, some "FlyTower", "FlyTower$Rig") := by decide +kernel
theorem i_63_49 : gI 63 49 = some (.ifCond .eq 5, 3) := by decide +kernel
theorem i_63_52 : gI 63 52 = some (.iconst (-1), 1) := by decide +kernel
theorem i_63_53 : gI 63 53 = some (.ireturn, 1) := by decide +kernel
theorem i_63_54 : gI 63 54 = some (.aload_n 0, 1) := by decide +kernel
theorem i_63_55 : gI 63 55 = some (.getfield 16, 3) := by decide +kernel
theorem i_63_58 : gI 63 58 = some (.getfield 258, 3) := by decide +kernel
theorem f_63_258 : gFld 63 258 = some (4, 11, 219, some "FlyTower", "FlyTower$Rig") := by decide +kernel
theorem i_63_61 : gI 63 61 = some (.aload_n 0, 1) := by decide +kernel
theorem i_63_62 : gI 63 62 = some (.getfield 10, 3) := by decide +kernel
theorem i_63_65 : gI 63 65 = some (.getfield 258, 3) := by decide +kernel
theorem i_63_68 : gI 63 68 = some (.if_icmp .eq 5, 3) := by decide +kernel
theorem i_63_71 : gI 63 71 = some (.iload_n 2, 1) := by decide +kernel
theorem i_63_72 : gI 63 72 = some (.ireturn, 1) := by decide +kernel
theorem i_63_73 : gI 63 73 = some (.iinc 2 1, 3) := by decide +kernel
theorem i_63_76 : gI 63 76 = some (.goto (-48), 3) := by decide +kernel
theorem i_63_79 : gI 63 79 = some (.iconst (-1), 1) := by decide +kernel
theorem i_63_80 : gI 63 80 = some (.ireturn, 1) := by decide +kernel
theorem r_64 : gR 64 = some (.int) := by decide +kernel
theorem l_64 : gLo 64 = 2 := by decide +kernel
theorem i_64_0 : gI 64 0 = some (.aload_n 0, 1) := by decide +kernel
theorem i_64_1 : gI 64 1 = some (.iload_n 1, 1) := by decide +kernel
theorem i_64_2 : gI 64 2 = some (.invokevirtual 279, 3) := by decide +kernel
theorem v_64_279 : gIv 64 279 = some (63, 1, 1, 5, 571, 573, 16, 0, none) := jv_eq (by decide +kernel)
theorem i_64_5 : gI 64 5 = some (.ireturn, 1) := by decide +kernel
theorem r_65 : gR 65 = some (.int) := by decide +kernel
theorem l_65 : gLo 65 = 2 := by decide +kernel
theorem i_65_0 : gI 65 0 = some (.aload_n 0, 1) := by decide +kernel
theorem i_65_1 : gI 65 1 = some (.iload_n 1, 1) := by decide +kernel
theorem i_65_2 : gI 65 2 = some (.invokevirtual 279, 3) := by decide +kernel
theorem v_65_279 : gIv 65 279 = some (63, 1, 1, 5, 571, 573, 16, 0, none) := jv_eq (by decide +kernel)
theorem i_65_5 : gI 65 5 = some (.pop, 1) := by decide +kernel
theorem i_65_6 : gI 65 6 = some (.aload_n 0, 1) := by decide +kernel
theorem i_65_7 : gI 65 7 = some (.getfield 16, 3) := by decide +kernel
theorem f_65_16 : gFld 65 16 = some (5, 1, 291, none, "FlyTower") := by decide +kernel
theorem i_65_10 : gI 65 10 = some (.getfield 283, 3) := by decide +kernel
theorem f_65_283 : gFld 65 283 = some (4, 17, 231, some "FlyTower", "FlyTower$Rig") := by decide +kernel
theorem i_65_13 : gI 65 13 = some (.ireturn, 1) := by decide +kernel
theorem r_66 : gR 66 = some (.int) := by decide +kernel
theorem l_66 : gLo 66 = 3 := by decide +kernel
theorem th_66_11 : gThr 66 11 = some ("java/lang/IllegalArgumentException", 30, 286, 34, "seconds are 1 to 60", true) := by decide +kernel
theorem i_66_0 : gI 66 0 = some (.iload_n 1, 1) := by decide +kernel
theorem i_66_1 : gI 66 1 = some (.iconst 1, 1) := by decide +kernel
theorem i_66_2 : gI 66 2 = some (.if_icmp .lt 9, 3) := by decide +kernel
theorem i_66_5 : gI 66 5 = some (.iload_n 1, 1) := by decide +kernel
theorem i_66_6 : gI 66 6 = some (.bipush 60, 2) := by decide +kernel
theorem i_66_8 : gI 66 8 = some (.if_icmp .le 14, 3) := by decide +kernel
theorem i_66_11 : gI 66 11 = some (.new 30, 3) := by decide +kernel
theorem i_66_14 : gI 66 14 = some (.dup, 1) := by decide +kernel
theorem i_66_15 : gI 66 15 = some (.ldc_w 286, 3) := by decide +kernel
theorem i_66_18 : gI 66 18 = some (.invokespecial 34, 3) := by decide +kernel
theorem i_66_21 : gI 66 21 = some (.athrow, 1) := by decide +kernel
theorem i_66_22 : gI 66 22 = some (.aload_n 0, 1) := by decide +kernel
theorem i_66_23 : gI 66 23 = some (.getfield 16, 3) := by decide +kernel
theorem f_66_16 : gFld 66 16 = some (5, 1, 291, none, "FlyTower") := by decide +kernel
theorem i_66_26 : gI 66 26 = some (.aload_n 0, 1) := by decide +kernel
theorem i_66_27 : gI 66 27 = some (.getfield 10, 3) := by decide +kernel
theorem f_66_10 : gFld 66 10 = some (5, 0, 290, none, "FlyTower") := by decide +kernel
theorem i_66_30 : gI 66 30 = some (.invokevirtual 288, 3) := by decide +kernel
theorem v_66_288 : gIv 66 288 = some (61, 1, 4, 4, 575, 577, 17, 0, some "FlyTower") := jv_eq (by decide +kernel)
theorem i_66_33 : gI 66 33 = some (.iconst 0, 1) := by decide +kernel
theorem i_66_34 : gI 66 34 = some (.istore_n 2, 1) := by decide +kernel
theorem i_66_35 : gI 66 35 = some (.iload_n 2, 1) := by decide +kernel
theorem i_66_36 : gI 66 36 = some (.iload_n 1, 1) := by decide +kernel
theorem i_66_37 : gI 66 37 = some (.if_icmp .ge 16, 3) := by decide +kernel
theorem i_66_40 : gI 66 40 = some (.aload_n 0, 1) := by decide +kernel
theorem i_66_41 : gI 66 41 = some (.getfield 16, 3) := by decide +kernel
theorem i_66_44 : gI 66 44 = some (.invokevirtual 220, 3) := by decide +kernel
theorem v_66_220 : gIv 66 220 = some (53, 0, 4, 4, 595, 597, 22, 0, some "FlyTower") := jv_eq (by decide +kernel)
theorem i_66_47 : gI 66 47 = some (.iinc 2 1, 3) := by decide +kernel
theorem i_66_50 : gI 66 50 = some (.goto (-15), 3) := by decide +kernel
theorem i_66_53 : gI 66 53 = some (.aload_n 0, 1) := by decide +kernel
theorem i_66_54 : gI 66 54 = some (.getfield 16, 3) := by decide +kernel
theorem i_66_57 : gI 66 57 = some (.getfield 270, 3) := by decide +kernel
theorem f_66_270 : gFld 66 270 = some (4, 15, 227, some "FlyTower", "FlyTower$Rig") := by decide +kernel
theorem i_66_60 : gI 66 60 = some (.aload_n 0, 1) := by decide +kernel
theorem i_66_61 : gI 66 61 = some (.getfield 10, 3) := by decide +kernel
theorem i_66_64 : gI 66 64 = some (.getfield 270, 3) := by decide +kernel
theorem i_66_67 : gI 66 67 = some (.isub, 1) := by decide +kernel
theorem i_66_68 : gI 66 68 = some (.ireturn, 1) := by decide +kernel
theorem r_67 : gR 67 = some (.boolean) := by decide +kernel
theorem l_67 : gLo 67 = 11 := by decide +kernel
theorem i_67_0 : gI 67 0 = some (.iconst 0, 1) := by decide +kernel
theorem i_67_1 : gI 67 1 = some (.istore_n 2, 1) := by decide +kernel
theorem i_67_2 : gI 67 2 = some (.iconst 0, 1) := by decide +kernel
theorem i_67_3 : gI 67 3 = some (.istore_n 3, 1) := by decide +kernel
theorem i_67_4 : gI 67 4 = some (.iconst 0, 1) := by decide +kernel
theorem i_67_5 : gI 67 5 = some (.istore 4, 2) := by decide +kernel
theorem i_67_7 : gI 67 7 = some (.iload 4, 2) := by decide +kernel
theorem i_67_9 : gI 67 9 = some (.iload_n 1, 1) := by decide +kernel
theorem i_67_10 : gI 67 10 = some (.if_icmp .ge 360, 3) := by decide +kernel
theorem i_67_13 : gI 67 13 = some (.iconst 0, 1) := by decide +kernel
theorem i_67_14 : gI 67 14 = some (.istore 5, 2) := by decide +kernel
theorem i_67_16 : gI 67 16 = some (.iconst 0, 1) := by decide +kernel
theorem i_67_17 : gI 67 17 = some (.istore 6, 2) := by decide +kernel
theorem i_67_19 : gI 67 19 = some (.iconst 0, 1) := by decide +kernel
theorem i_67_20 : gI 67 20 = some (.istore 7, 2) := by decide +kernel
theorem i_67_22 : gI 67 22 = some (.iconst 0, 1) := by decide +kernel
theorem i_67_23 : gI 67 23 = some (.istore 8, 2) := by decide +kernel
theorem i_67_25 : gI 67 25 = some (.iload 8, 2) := by decide +kernel
theorem i_67_27 : gI 67 27 = some (.bipush 8, 2) := by decide +kernel
theorem i_67_29 : gI 67 29 = some (.if_icmp .ge 64, 3) := by decide +kernel
theorem i_67_32 : gI 67 32 = some (.aload_n 0, 1) := by decide +kernel
theorem i_67_33 : gI 67 33 = some (.iload 8, 2) := by decide +kernel
theorem i_67_35 : gI 67 35 = some (.iconst 3, 1) := by decide +kernel
theorem i_67_36 : gI 67 36 = some (.invokevirtual 40, 3) := by decide +kernel
theorem v_67_40 : gIv 67 40 = some (20, 2, 1, 5, 531, 532, 533, 0, none) := jv_eq (by decide +kernel)
theorem i_67_39 : gI 67 39 = some (.iload 4, 2) := by decide +kernel
theorem i_67_41 : gI 67 41 = some (.if_icmp .eq 6, 3) := by decide +kernel
theorem i_67_44 : gI 67 44 = some (.goto 43, 3) := by decide +kernel
theorem i_67_47 : gI 67 47 = some (.iload 5, 2) := by decide +kernel
theorem i_67_49 : gI 67 49 = some (.aload_n 0, 1) := by decide +kernel
theorem i_67_50 : gI 67 50 = some (.iload 8, 2) := by decide +kernel
theorem i_67_52 : gI 67 52 = some (.iconst 0, 1) := by decide +kernel
theorem i_67_53 : gI 67 53 = some (.invokevirtual 40, 3) := by decide +kernel
theorem i_67_56 : gI 67 56 = some (.iadd, 1) := by decide +kernel
theorem i_67_57 : gI 67 57 = some (.istore 5, 2) := by decide +kernel
theorem i_67_59 : gI 67 59 = some (.iload 6, 2) := by decide +kernel
theorem i_67_61 : gI 67 61 = some (.aload_n 0, 1) := by decide +kernel
theorem i_67_62 : gI 67 62 = some (.iload 8, 2) := by decide +kernel
theorem i_67_64 : gI 67 64 = some (.iconst 1, 1) := by decide +kernel
theorem i_67_65 : gI 67 65 = some (.invokevirtual 40, 3) := by decide +kernel
theorem i_67_68 : gI 67 68 = some (.invokestatic 49, 3) := by decide +kernel
theorem v_67_49 : gIv 67 49 = some (0, 2, 101, 0, 726, 462, 463, 49, none) := jv_eq (by decide +kernel)
theorem i_67_71 : gI 67 71 = some (.istore 6, 2) := by decide +kernel
theorem i_67_73 : gI 67 73 = some (.iload 7, 2) := by decide +kernel
theorem i_67_75 : gI 67 75 = some (.aload_n 0, 1) := by decide +kernel
theorem i_67_76 : gI 67 76 = some (.iload 8, 2) := by decide +kernel
theorem i_67_78 : gI 67 78 = some (.iconst 2, 1) := by decide +kernel
theorem i_67_79 : gI 67 79 = some (.invokevirtual 40, 3) := by decide +kernel
theorem i_67_82 : gI 67 82 = some (.invokestatic 49, 3) := by decide +kernel
theorem i_67_85 : gI 67 85 = some (.istore 7, 2) := by decide +kernel
theorem i_67_87 : gI 67 87 = some (.iinc 8 1, 3) := by decide +kernel
theorem i_67_90 : gI 67 90 = some (.goto (-65), 3) := by decide +kernel
theorem i_67_93 : gI 67 93 = some (.aload_n 0, 1) := by decide +kernel
theorem i_67_94 : gI 67 94 = some (.iload 4, 2) := by decide +kernel
theorem i_67_96 : gI 67 96 = some (.iconst 0, 1) := by decide +kernel
theorem i_67_97 : gI 67 97 = some (.invokevirtual 37, 3) := by decide +kernel
theorem v_67_37 : gIv 67 37 = some (18, 2, 1, 5, 526, 527, 528, 0, none) := jv_eq (by decide +kernel)
theorem i_67_100 : gI 67 100 = some (.iconst 1, 1) := by decide +kernel
theorem i_67_101 : gI 67 101 = some (.if_icmp .ne 7, 3) := by decide +kernel
theorem i_67_104 : gI 67 104 = some (.iconst 1, 1) := by decide +kernel
theorem i_67_105 : gI 67 105 = some (.goto 4, 3) := by decide +kernel
theorem i_67_108 : gI 67 108 = some (.iconst 0, 1) := by decide +kernel
theorem i_67_109 : gI 67 109 = some (.istore 8, 2) := by decide +kernel
theorem i_67_111 : gI 67 111 = some (.iload_n 2, 1) := by decide +kernel
theorem i_67_112 : gI 67 112 = some (.aload_n 0, 1) := by decide +kernel
theorem i_67_113 : gI 67 113 = some (.iload 4, 2) := by decide +kernel
theorem i_67_115 : gI 67 115 = some (.bipush 10, 2) := by decide +kernel
theorem i_67_117 : gI 67 117 = some (.invokevirtual 37, 3) := by decide +kernel
theorem i_67_120 : gI 67 120 = some (.iload 4, 2) := by decide +kernel
theorem i_67_122 : gI 67 122 = some (.ishl, 1) := by decide +kernel
theorem i_67_123 : gI 67 123 = some (.ior, 1) := by decide +kernel
theorem i_67_124 : gI 67 124 = some (.istore_n 2, 1) := by decide +kernel
theorem i_67_125 : gI 67 125 = some (.iload_n 3, 1) := by decide +kernel
theorem i_67_126 : gI 67 126 = some (.aload_n 0, 1) := by decide +kernel
theorem i_67_127 : gI 67 127 = some (.iload 4, 2) := by decide +kernel
theorem i_67_129 : gI 67 129 = some (.iconst 2, 1) := by decide +kernel
theorem i_67_130 : gI 67 130 = some (.invokevirtual 37, 3) := by decide +kernel
theorem i_67_133 : gI 67 133 = some (.iadd, 1) := by decide +kernel
theorem i_67_134 : gI 67 134 = some (.istore_n 3, 1) := by decide +kernel
theorem i_67_135 : gI 67 135 = some (.aload_n 0, 1) := by decide +kernel
theorem i_67_136 : gI 67 136 = some (.iload 4, 2) := by decide +kernel
theorem i_67_138 : gI 67 138 = some (.iconst 2, 1) := by decide +kernel
theorem i_67_139 : gI 67 139 = some (.invokevirtual 37, 3) := by decide +kernel
theorem i_67_142 : gI 67 142 = some (.ifCond .lt 105, 3) := by decide +kernel
theorem i_67_145 : gI 67 145 = some (.aload_n 0, 1) := by decide +kernel
theorem i_67_146 : gI 67 146 = some (.iload 4, 2) := by decide +kernel
theorem i_67_148 : gI 67 148 = some (.iconst 2, 1) := by decide +kernel
theorem i_67_149 : gI 67 149 = some (.invokevirtual 37, 3) := by decide +kernel
theorem i_67_152 : gI 67 152 = some (.bipush 120, 2) := by decide +kernel
theorem i_67_154 : gI 67 154 = some (.if_icmp .gt 93, 3) := by decide +kernel
theorem i_67_157 : gI 67 157 = some (.aload_n 0, 1) := by decide +kernel
theorem i_67_158 : gI 67 158 = some (.iload 4, 2) := by decide +kernel
theorem i_67_160 : gI 67 160 = some (.iconst 4, 1) := by decide +kernel
theorem i_67_161 : gI 67 161 = some (.invokevirtual 37, 3) := by decide +kernel
theorem i_67_164 : gI 67 164 = some (.iload 5, 2) := by decide +kernel
theorem i_67_166 : gI 67 166 = some (.if_icmp .ne 81, 3) := by decide +kernel
theorem i_67_169 : gI 67 169 = some (.iload 5, 2) := by decide +kernel
theorem i_67_171 : gI 67 171 = some (.aload_n 0, 1) := by decide +kernel
theorem i_67_172 : gI 67 172 = some (.iload 4, 2) := by decide +kernel
theorem i_67_174 : gI 67 174 = some (.iconst 1, 1) := by decide +kernel
theorem i_67_175 : gI 67 175 = some (.invokevirtual 37, 3) := by decide +kernel
theorem i_67_178 : gI 67 178 = some (.if_icmp .gt 69, 3) := by decide +kernel
theorem i_67_181 : gI 67 181 = some (.aload_n 0, 1) := by decide +kernel
theorem i_67_182 : gI 67 182 = some (.iload 4, 2) := by decide +kernel
theorem i_67_184 : gI 67 184 = some (.iconst 5, 1) := by decide +kernel
theorem i_67_185 : gI 67 185 = some (.invokevirtual 37, 3) := by decide +kernel
theorem i_67_188 : gI 67 188 = some (.iload 6, 2) := by decide +kernel
theorem i_67_190 : gI 67 190 = some (.if_icmp .ne 57, 3) := by decide +kernel
theorem i_67_193 : gI 67 193 = some (.aload_n 0, 1) := by decide +kernel
theorem i_67_194 : gI 67 194 = some (.iload 4, 2) := by decide +kernel
theorem i_67_196 : gI 67 196 = some (.bipush 6, 2) := by decide +kernel
theorem i_67_198 : gI 67 198 = some (.invokevirtual 37, 3) := by decide +kernel
theorem i_67_201 : gI 67 201 = some (.iload 7, 2) := by decide +kernel
theorem i_67_203 : gI 67 203 = some (.if_icmp .ne 44, 3) := by decide +kernel
theorem i_67_206 : gI 67 206 = some (.aload_n 0, 1) := by decide +kernel
theorem i_67_207 : gI 67 207 = some (.iload 4, 2) := by decide +kernel
theorem i_67_209 : gI 67 209 = some (.bipush 7, 2) := by decide +kernel
theorem i_67_211 : gI 67 211 = some (.invokevirtual 37, 3) := by decide +kernel
theorem i_67_214 : gI 67 214 = some (.iload 8, 2) := by decide +kernel
theorem i_67_216 : gI 67 216 = some (.ifCond .eq 7, 3) := by decide +kernel
theorem i_67_219 : gI 67 219 = some (.iconst 0, 1) := by decide +kernel
theorem i_67_220 : gI 67 220 = some (.goto 13, 3) := by decide +kernel
theorem i_67_223 : gI 67 223 = some (.iload 5, 2) := by decide +kernel
theorem i_67_225 : gI 67 225 = some (.aload_n 0, 1) := by decide +kernel
theorem i_67_226 : gI 67 226 = some (.iload 4, 2) := by decide +kernel
theorem i_67_228 : gI 67 228 = some (.iconst 3, 1) := by decide +kernel
theorem i_67_229 : gI 67 229 = some (.invokevirtual 37, 3) := by decide +kernel
theorem i_67_232 : gI 67 232 = some (.isub, 1) := by decide +kernel
theorem i_67_233 : gI 67 233 = some (.if_icmp .ne 14, 3) := by decide +kernel
theorem i_67_236 : gI 67 236 = some (.aload_n 0, 1) := by decide +kernel
theorem i_67_237 : gI 67 237 = some (.iload 4, 2) := by decide +kernel
theorem i_67_239 : gI 67 239 = some (.iload 4, 2) := by decide +kernel
theorem i_67_241 : gI 67 241 = some (.invokevirtual 107, 3) := by decide +kernel
theorem v_67_107 : gIv 67 107 = some (43, 2, 1, 5, 703, 704, 705, 0, none) := jv_eq (by decide +kernel)
theorem i_67_244 : gI 67 244 = some (.ifCond .eq 5, 3) := by decide +kernel
theorem i_67_247 : gI 67 247 = some (.iconst 0, 1) := by decide +kernel
theorem i_67_248 : gI 67 248 = some (.ireturn, 1) := by decide +kernel
theorem i_67_249 : gI 67 249 = some (.iconst 0, 1) := by decide +kernel
theorem i_67_250 : gI 67 250 = some (.istore 9, 2) := by decide +kernel
theorem i_67_252 : gI 67 252 = some (.iload 9, 2) := by decide +kernel
theorem i_67_254 : gI 67 254 = some (.iload 4, 2) := by decide +kernel
theorem i_67_256 : gI 67 256 = some (.if_icmp .ge 108, 3) := by decide +kernel
theorem i_67_259 : gI 67 259 = some (.iload 4, 2) := by decide +kernel
theorem i_67_261 : gI 67 261 = some (.iload 9, 2) := by decide +kernel
theorem i_67_263 : gI 67 263 = some (.isub, 1) := by decide +kernel
theorem i_67_264 : gI 67 264 = some (.iload 7, 2) := by decide +kernel
theorem i_67_266 : gI 67 266 = some (.aload_n 0, 1) := by decide +kernel
theorem i_67_267 : gI 67 267 = some (.iload 9, 2) := by decide +kernel
theorem i_67_269 : gI 67 269 = some (.bipush 6, 2) := by decide +kernel
theorem i_67_271 : gI 67 271 = some (.invokevirtual 37, 3) := by decide +kernel
theorem i_67_274 : gI 67 274 = some (.iadd, 1) := by decide +kernel
theorem i_67_275 : gI 67 275 = some (.if_icmp .gt 52, 3) := by decide +kernel
theorem i_67_278 : gI 67 278 = some (.aload_n 0, 1) := by decide +kernel
theorem i_67_279 : gI 67 279 = some (.iload 4, 2) := by decide +kernel
theorem i_67_281 : gI 67 281 = some (.iconst 2, 1) := by decide +kernel
theorem i_67_282 : gI 67 282 = some (.invokevirtual 37, 3) := by decide +kernel
theorem i_67_285 : gI 67 285 = some (.iload 6, 2) := by decide +kernel
theorem i_67_287 : gI 67 287 = some (.isub, 1) := by decide +kernel
theorem i_67_288 : gI 67 288 = some (.aload_n 0, 1) := by decide +kernel
theorem i_67_289 : gI 67 289 = some (.iload 9, 2) := by decide +kernel
theorem i_67_291 : gI 67 291 = some (.iconst 2, 1) := by decide +kernel
theorem i_67_292 : gI 67 292 = some (.invokevirtual 37, 3) := by decide +kernel
theorem i_67_295 : gI 67 295 = some (.if_icmp .gt 32, 3) := by decide +kernel
theorem i_67_298 : gI 67 298 = some (.aload_n 0, 1) := by decide +kernel
theorem i_67_299 : gI 67 299 = some (.iload 9, 2) := by decide +kernel
theorem i_67_301 : gI 67 301 = some (.iconst 2, 1) := by decide +kernel
theorem i_67_302 : gI 67 302 = some (.invokevirtual 37, 3) := by decide +kernel
theorem i_67_305 : gI 67 305 = some (.aload_n 0, 1) := by decide +kernel
theorem i_67_306 : gI 67 306 = some (.iload 9, 2) := by decide +kernel
theorem i_67_308 : gI 67 308 = some (.iconst 5, 1) := by decide +kernel
theorem i_67_309 : gI 67 309 = some (.invokevirtual 37, 3) := by decide +kernel
theorem i_67_312 : gI 67 312 = some (.isub, 1) := by decide +kernel
theorem i_67_313 : gI 67 313 = some (.aload_n 0, 1) := by decide +kernel
theorem i_67_314 : gI 67 314 = some (.iload 4, 2) := by decide +kernel
theorem i_67_316 : gI 67 316 = some (.iconst 2, 1) := by decide +kernel
theorem i_67_317 : gI 67 317 = some (.invokevirtual 37, 3) := by decide +kernel
theorem i_67_320 : gI 67 320 = some (.if_icmp .gt 7, 3) := by decide +kernel
theorem i_67_323 : gI 67 323 = some (.iconst 1, 1) := by decide +kernel
theorem i_67_324 : gI 67 324 = some (.goto 4, 3) := by decide +kernel
theorem i_67_327 : gI 67 327 = some (.iconst 0, 1) := by decide +kernel
theorem i_67_328 : gI 67 328 = some (.istore 10, 2) := by decide +kernel
theorem i_67_330 : gI 67 330 = some (.aload_n 0, 1) := by decide +kernel
theorem i_67_331 : gI 67 331 = some (.iload 4, 2) := by decide +kernel
theorem i_67_333 : gI 67 333 = some (.iload 9, 2) := by decide +kernel
theorem i_67_335 : gI 67 335 = some (.invokevirtual 107, 3) := by decide +kernel
theorem i_67_338 : gI 67 338 = some (.iload 10, 2) := by decide +kernel
theorem i_67_340 : gI 67 340 = some (.if_icmp .ne 16, 3) := by decide +kernel
theorem i_67_343 : gI 67 343 = some (.aload_n 0, 1) := by decide +kernel
theorem i_67_344 : gI 67 344 = some (.iload 9, 2) := by decide +kernel
theorem i_67_346 : gI 67 346 = some (.iload 4, 2) := by decide +kernel
theorem i_67_348 : gI 67 348 = some (.invokevirtual 107, 3) := by decide +kernel
theorem i_67_351 : gI 67 351 = some (.iload 10, 2) := by decide +kernel
theorem i_67_353 : gI 67 353 = some (.if_icmp .eq 5, 3) := by decide +kernel
theorem i_67_356 : gI 67 356 = some (.iconst 0, 1) := by decide +kernel
theorem i_67_357 : gI 67 357 = some (.ireturn, 1) := by decide +kernel
theorem i_67_358 : gI 67 358 = some (.iinc 9 1, 3) := by decide +kernel
theorem i_67_361 : gI 67 361 = some (.goto (-109), 3) := by decide +kernel
theorem i_67_364 : gI 67 364 = some (.iinc 4 1, 3) := by decide +kernel
theorem i_67_367 : gI 67 367 = some (.goto (-360), 3) := by decide +kernel
theorem i_67_370 : gI 67 370 = some (.aload_n 0, 1) := by decide +kernel
theorem i_67_371 : gI 67 371 = some (.iconst 5, 1) := by decide +kernel
theorem i_67_372 : gI 67 372 = some (.invokevirtual 34, 3) := by decide +kernel
theorem v_67_34 : gIv 67 34 = some (15, 1, 1, 5, 548, 549, 550, 0, none) := jv_eq (by decide +kernel)
theorem i_67_375 : gI 67 375 = some (.istore 4, 2) := by decide +kernel
theorem i_67_377 : gI 67 377 = some (.iconst 0, 1) := by decide +kernel
theorem i_67_378 : gI 67 378 = some (.istore 5, 2) := by decide +kernel
theorem i_67_380 : gI 67 380 = some (.iconst 0, 1) := by decide +kernel
theorem i_67_381 : gI 67 381 = some (.istore 6, 2) := by decide +kernel
theorem i_67_383 : gI 67 383 = some (.iload 4, 2) := by decide +kernel
theorem i_67_385 : gI 67 385 = some (.ifCond .lt 65, 3) := by decide +kernel
theorem i_67_388 : gI 67 388 = some (.iload 6, 2) := by decide +kernel
theorem i_67_390 : gI 67 390 = some (.aload_n 0, 1) := by decide +kernel
theorem i_67_391 : gI 67 391 = some (.iload 4, 2) := by decide +kernel
theorem i_67_393 : gI 67 393 = some (.invokestatic 57, 3) := by decide +kernel
theorem v_67_57 : gIv 67 57 = some (28, 2, 6, 0, 678, 679, 0, 0, none) := jv_eq (by decide +kernel)
theorem i_67_396 : gI 67 396 = some (.if_icmp .ge 54, 3) := by decide +kernel
theorem i_67_399 : gI 67 399 = some (.aload_n 0, 1) := by decide +kernel
theorem i_67_400 : gI 67 400 = some (.iload 4, 2) := by decide +kernel
theorem i_67_402 : gI 67 402 = some (.iload 6, 2) := by decide +kernel
theorem i_67_404 : gI 67 404 = some (.iconst 4, 1) := by decide +kernel
theorem i_67_405 : gI 67 405 = some (.invokevirtual 65, 3) := by decide +kernel
theorem v_67_65 : gIv 67 65 = some (27, 3, 1, 5, 536, 537, 538, 0, none) := jv_eq (by decide +kernel)
theorem i_67_408 : gI 67 408 = some (.istore 7, 2) := by decide +kernel
theorem i_67_410 : gI 67 410 = some (.iload 5, 2) := by decide +kernel
theorem i_67_412 : gI 67 412 = some (.iload 7, 2) := by decide +kernel
theorem i_67_414 : gI 67 414 = some (.ifCond .ne 7, 3) := by decide +kernel
theorem i_67_417 : gI 67 417 = some (.iconst 1, 1) := by decide +kernel
theorem i_67_418 : gI 67 418 = some (.goto 4, 3) := by decide +kernel
theorem i_67_421 : gI 67 421 = some (.iconst 0, 1) := by decide +kernel
theorem i_67_422 : gI 67 422 = some (.iadd, 1) := by decide +kernel
theorem i_67_423 : gI 67 423 = some (.istore 5, 2) := by decide +kernel
theorem i_67_425 : gI 67 425 = some (.iload 7, 2) := by decide +kernel
theorem i_67_427 : gI 67 427 = some (.ifCond .lt 15, 3) := by decide +kernel
theorem i_67_430 : gI 67 430 = some (.aload_n 0, 1) := by decide +kernel
theorem i_67_431 : gI 67 431 = some (.iload 4, 2) := by decide +kernel
theorem i_67_433 : gI 67 433 = some (.iload 6, 2) := by decide +kernel
theorem i_67_435 : gI 67 435 = some (.iconst 5, 1) := by decide +kernel
theorem i_67_436 : gI 67 436 = some (.invokevirtual 65, 3) := by decide +kernel
theorem i_67_439 : gI 67 439 = some (.ifCond .ge 5, 3) := by decide +kernel
theorem i_67_442 : gI 67 442 = some (.iconst 0, 1) := by decide +kernel
theorem i_67_443 : gI 67 443 = some (.ireturn, 1) := by decide +kernel
theorem i_67_444 : gI 67 444 = some (.iinc 6 1, 3) := by decide +kernel
theorem i_67_447 : gI 67 447 = some (.goto (-64), 3) := by decide +kernel
theorem i_67_450 : gI 67 450 = some (.aload_n 0, 1) := by decide +kernel
theorem i_67_451 : gI 67 451 = some (.bipush 15, 2) := by decide +kernel
theorem i_67_453 : gI 67 453 = some (.invokevirtual 34, 3) := by decide +kernel
theorem i_67_456 : gI 67 456 = some (.iload_n 2, 1) := by decide +kernel
theorem i_67_457 : gI 67 457 = some (.if_icmp .ne 74, 3) := by decide +kernel
theorem i_67_460 : gI 67 460 = some (.aload_n 0, 1) := by decide +kernel
theorem i_67_461 : gI 67 461 = some (.bipush 8, 2) := by decide +kernel
theorem i_67_463 : gI 67 463 = some (.invokevirtual 34, 3) := by decide +kernel
theorem i_67_466 : gI 67 466 = some (.iload 5, 2) := by decide +kernel
theorem i_67_468 : gI 67 468 = some (.if_icmp .ne 63, 3) := by decide +kernel
theorem i_67_471 : gI 67 471 = some (.iload 4, 2) := by decide +kernel
theorem i_67_473 : gI 67 473 = some (.ifCond .ge 19, 3) := by decide +kernel
theorem i_67_476 : gI 67 476 = some (.aload_n 0, 1) := by decide +kernel
theorem i_67_477 : gI 67 477 = some (.bipush 7, 2) := by decide +kernel
theorem i_67_479 : gI 67 479 = some (.invokevirtual 34, 3) := by decide +kernel
theorem i_67_482 : gI 67 482 = some (.aload_n 0, 1) := by decide +kernel
theorem i_67_483 : gI 67 483 = some (.bipush 6, 2) := by decide +kernel
theorem i_67_485 : gI 67 485 = some (.invokevirtual 34, 3) := by decide +kernel
theorem i_67_488 : gI 67 488 = some (.iadd, 1) := by decide +kernel
theorem i_67_489 : gI 67 489 = some (.ifCond .ne 42, 3) := by decide +kernel
theorem i_67_492 : gI 67 492 = some (.iload 4, 2) := by decide +kernel
theorem i_67_494 : gI 67 494 = some (.ifCond .lt 17, 3) := by decide +kernel
theorem i_67_497 : gI 67 497 = some (.iload 5, 2) := by decide +kernel
theorem i_67_499 : gI 67 499 = some (.ifCond .ne 12, 3) := by decide +kernel
theorem i_67_502 : gI 67 502 = some (.aload_n 0, 1) := by decide +kernel
theorem i_67_503 : gI 67 503 = some (.bipush 7, 2) := by decide +kernel
theorem i_67_505 : gI 67 505 = some (.invokevirtual 34, 3) := by decide +kernel
theorem i_67_508 : gI 67 508 = some (.ifCond .ne 23, 3) := by decide +kernel
theorem i_67_511 : gI 67 511 = some (.aload_n 0, 1) := by decide +kernel
theorem i_67_512 : gI 67 512 = some (.invokevirtual 122, 3) := by decide +kernel
theorem v_67_122 : gIv 67 122 = some (57, 0, 1, 5, 727, 728, 729, 0, none) := jv_eq (by decide +kernel)
theorem i_67_515 : gI 67 515 = some (.iload_n 1, 1) := by decide +kernel
theorem i_67_516 : gI 67 516 = some (.i2d, 1) := by decide +kernel
theorem i_67_517 : gI 67 517 = some (.dmul, 1) := by decide +kernel
theorem i_67_518 : gI 67 518 = some (.iload_n 3, 1) := by decide +kernel
theorem i_67_519 : gI 67 519 = some (.i2d, 1) := by decide +kernel
theorem i_67_520 : gI 67 520 = some (.dsub, 1) := by decide +kernel
theorem i_67_521 : gI 67 521 = some (.invokestatic 126, 3) := by decide +kernel
theorem v_67_126 : gIv 67 126 = some (0, 1, 107, 0, 731, 732, 733, 49, none) := jv_eq (by decide +kernel)
theorem i_67_524 : gI 67 524 = some (.ldc2_w 129, 3) := by decide +kernel
theorem c_67_129 : gCs 67 129 = some (.double (4547007122018943789), 741) := by decide +kernel
theorem i_67_527 : gI 67 527 = some (.dcmp .l, 1) := by decide +kernel
theorem i_67_528 : gI 67 528 = some (.ifCond .le 5, 3) := by decide +kernel
theorem i_67_531 : gI 67 531 = some (.iconst 0, 1) := by decide +kernel
theorem i_67_532 : gI 67 532 = some (.ireturn, 1) := by decide +kernel
theorem i_67_533 : gI 67 533 = some (.iconst 0, 1) := by decide +kernel
theorem i_67_534 : gI 67 534 = some (.istore 6, 2) := by decide +kernel
theorem i_67_536 : gI 67 536 = some (.iload 6, 2) := by decide +kernel
theorem i_67_538 : gI 67 538 = some (.iconst 4, 1) := by decide +kernel
theorem i_67_539 : gI 67 539 = some (.if_icmp .ge 71, 3) := by decide +kernel
theorem i_67_542 : gI 67 542 = some (.aload_n 0, 1) := by decide +kernel
theorem i_67_543 : gI 67 543 = some (.iload 6, 2) := by decide +kernel
theorem i_67_545 : gI 67 545 = some (.invokevirtual 131, 3) := by decide +kernel
theorem v_67_131 : gIv 67 131 = some (64, 1, 1, 5, 742, 743, 744, 0, none) := jv_eq (by decide +kernel)
theorem i_67_548 : gI 67 548 = some (.istore 7, 2) := by decide +kernel
theorem i_67_550 : gI 67 550 = some (.aload_n 0, 1) := by decide +kernel
theorem i_67_551 : gI 67 551 = some (.iload 6, 2) := by decide +kernel
theorem i_67_553 : gI 67 553 = some (.invokevirtual 134, 3) := by decide +kernel
theorem v_67_134 : gIv 67 134 = some (65, 1, 1, 5, 746, 747, 748, 0, none) := jv_eq (by decide +kernel)
theorem i_67_556 : gI 67 556 = some (.istore 8, 2) := by decide +kernel
theorem i_67_558 : gI 67 558 = some (.iload 7, 2) := by decide +kernel
theorem i_67_560 : gI 67 560 = some (.ifCond .eq 42, 3) := by decide +kernel
theorem i_67_563 : gI 67 563 = some (.iload 7, 2) := by decide +kernel
theorem i_67_565 : gI 67 565 = some (.sipush 200, 3) := by decide +kernel
theorem i_67_568 : gI 67 568 = some (.if_icmp .gt 34, 3) := by decide +kernel
theorem i_67_571 : gI 67 571 = some (.iload 7, 2) := by decide +kernel
theorem i_67_573 : gI 67 573 = some (.ifCond .lt 8, 3) := by decide +kernel
theorem i_67_576 : gI 67 576 = some (.iload 8, 2) := by decide +kernel
theorem i_67_578 : gI 67 578 = some (.ifCond .ge 24, 3) := by decide +kernel
theorem i_67_581 : gI 67 581 = some (.iload 8, 2) := by decide +kernel
theorem i_67_583 : gI 67 583 = some (.iload_n 1, 1) := by decide +kernel
theorem i_67_584 : gI 67 584 = some (.if_icmp .ge 18, 3) := by decide +kernel
theorem i_67_587 : gI 67 587 = some (.aload_n 0, 1) := by decide +kernel
theorem i_67_588 : gI 67 588 = some (.iload 6, 2) := by decide +kernel
theorem i_67_590 : gI 67 590 = some (.invokestatic 57, 3) := by decide +kernel
theorem i_67_593 : gI 67 593 = some (.ifCond .ne 11, 3) := by decide +kernel
theorem i_67_596 : gI 67 596 = some (.iload 7, 2) := by decide +kernel
theorem i_67_598 : gI 67 598 = some (.iconst 1, 1) := by decide +kernel
theorem i_67_599 : gI 67 599 = some (.if_icmp .eq 5, 3) := by decide +kernel
theorem i_67_602 : gI 67 602 = some (.iconst 0, 1) := by decide +kernel
theorem i_67_603 : gI 67 603 = some (.ireturn, 1) := by decide +kernel
theorem i_67_604 : gI 67 604 = some (.iinc 6 1, 3) := by decide +kernel
theorem i_67_607 : gI 67 607 = some (.goto (-71), 3) := by decide +kernel
theorem i_67_610 : gI 67 610 = some (.aload_n 0, 1) := by decide +kernel
theorem i_67_611 : gI 67 611 = some (.iconst 5, 1) := by decide +kernel
theorem i_67_612 : gI 67 612 = some (.invokevirtual 137, 3) := by decide +kernel
theorem v_67_137 : gIv 67 137 = some (66, 1, 1, 5, 750, 650, 651, 0, none) := jv_eq (by decide +kernel)
theorem i_67_615 : gI 67 615 = some (.ifCond .lt 18, 3) := by decide +kernel
theorem i_67_618 : gI 67 618 = some (.aload_n 0, 1) := by decide +kernel
theorem i_67_619 : gI 67 619 = some (.iconst 5, 1) := by decide +kernel
theorem i_67_620 : gI 67 620 = some (.invokevirtual 137, 3) := by decide +kernel
theorem i_67_623 : gI 67 623 = some (.iconst 5, 1) := by decide +kernel
theorem i_67_624 : gI 67 624 = some (.iload_n 1, 1) := by decide +kernel
theorem i_67_625 : gI 67 625 = some (.imul, 1) := by decide +kernel
theorem i_67_626 : gI 67 626 = some (.if_icmp .gt 7, 3) := by decide +kernel
theorem i_67_629 : gI 67 629 = some (.iconst 1, 1) := by decide +kernel
theorem i_67_630 : gI 67 630 = some (.goto 4, 3) := by decide +kernel
theorem i_67_633 : gI 67 633 = some (.iconst 0, 1) := by decide +kernel
theorem i_67_634 : gI 67 634 = some (.ireturn, 1) := by decide +kernel
