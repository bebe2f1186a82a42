set_option maxRecDepth 100000 in
theorem gv_me_0 : gp_me 0 = true := by decide +kernel
set_option maxRecDepth 100000 in
theorem gv_me_1 : gp_me 1 = true := by decide +kernel
set_option maxRecDepth 100000 in
theorem gv_me_2 : gp_me 2 = true := by decide +kernel
set_option maxRecDepth 100000 in
theorem gv_me_3 : gp_me 3 = true := by decide +kernel
set_option maxRecDepth 100000 in
theorem gv_me_4 : gp_me 4 = true := by decide +kernel
set_option maxRecDepth 100000 in
theorem gv_me_5 : gp_me 5 = true := by decide +kernel
set_option maxRecDepth 100000 in
theorem gv_me_6 : gp_me 6 = true := by decide +kernel
set_option maxRecDepth 100000 in
theorem gv_me_7 : gp_me 7 = true := by decide +kernel
set_option maxRecDepth 100000 in
theorem gv_me_8 : gp_me 8 = true := by decide +kernel
set_option maxRecDepth 100000 in
theorem gv_me_9 : gp_me 9 = true := by decide +kernel
set_option maxRecDepth 100000 in
theorem gv_me_10 : gp_me 10 = true := by decide +kernel
set_option maxRecDepth 100000 in
theorem gv_me_11 : gp_me 11 = true := by decide +kernel
set_option maxRecDepth 100000 in
theorem gv_me_12 : gp_me 12 = true := by decide +kernel
set_option maxRecDepth 100000 in
theorem gv_me_13 : gp_me 13 = true := by decide +kernel
set_option maxRecDepth 100000 in
theorem gv_me_14 : gp_me 14 = true := by decide +kernel
set_option maxRecDepth 100000 in
theorem gv_me_15 : gp_me 15 = true := by decide +kernel
set_option maxRecDepth 100000 in
theorem gv_me_16 : gp_me 16 = true := by decide +kernel
set_option maxRecDepth 100000 in
theorem gv_me_17 : gp_me 17 = true := by decide +kernel
set_option maxRecDepth 100000 in
theorem gv_me_18 : gp_me 18 = true := by decide +kernel
set_option maxRecDepth 100000 in
theorem gv_me_19 : gp_me 19 = true := by decide +kernel
set_option maxRecDepth 100000 in
theorem gv_me_20 : gp_me 20 = true := by decide +kernel
set_option maxRecDepth 100000 in
theorem gv_me_21 : gp_me 21 = true := by decide +kernel
set_option maxRecDepth 100000 in
theorem gv_me_22 : gp_me 22 = true := by decide +kernel
set_option maxRecDepth 100000 in
theorem gv_me_23 : gp_me 23 = true := by decide +kernel
set_option maxRecDepth 100000 in
theorem gv_me_24 : gp_me 24 = true := by decide +kernel
set_option maxRecDepth 100000 in
theorem gv_me_25 : gp_me 25 = true := by decide +kernel
set_option maxRecDepth 100000 in
theorem gv_me_26 : gp_me 26 = true := by decide +kernel
set_option maxRecDepth 100000 in
theorem gv_me_27 : gp_me 27 = true := by decide +kernel
set_option maxRecDepth 100000 in
theorem gv_me_28 : gp_me 28 = true := by decide +kernel
set_option maxRecDepth 100000 in
theorem gv_me_29 : gp_me 29 = true := by decide +kernel
set_option maxRecDepth 100000 in
theorem gv_me_30 : gp_me 30 = true := by decide +kernel
set_option maxRecDepth 100000 in
theorem gv_me_31 : gp_me 31 = true := by decide +kernel
set_option maxRecDepth 100000 in
theorem gv_me_32 : gp_me 32 = true := by decide +kernel
set_option maxRecDepth 100000 in
theorem gv_me_33 : gp_me 33 = true := by decide +kernel
set_option maxRecDepth 100000 in
theorem gv_me_34 : gp_me 34 = true := by decide +kernel
set_option maxRecDepth 100000 in
theorem gv_me_35 : gp_me 35 = true := by decide +kernel
set_option maxRecDepth 100000 in
theorem gv_me_36 : gp_me 36 = true := by decide +kernel
set_option maxRecDepth 100000 in
theorem gv_me_37 : gp_me 37 = true := by decide +kernel
set_option maxRecDepth 100000 in
theorem gv_me_38 : gp_me 38 = true := by decide +kernel
set_option maxRecDepth 100000 in
theorem gv_me_39 : gp_me 39 = true := by decide +kernel
set_option maxRecDepth 100000 in
theorem gv_me_40 : gp_me 40 = true := by decide +kernel
set_option maxRecDepth 100000 in
theorem gv_me_41 : gp_me 41 = true := by decide +kernel
set_option maxRecDepth 100000 in
theorem gv_me_42 : gp_me 42 = true := by decide +kernel
set_option maxRecDepth 100000 in
theorem gv_me_43 : gp_me 43 = true := by decide +kernel
set_option maxRecDepth 100000 in
theorem gv_me_44 : gp_me 44 = true := by decide +kernel
set_option maxRecDepth 100000 in
theorem gv_me_45 : gp_me 45 = true := by decide +kernel
set_option maxRecDepth 100000 in
theorem gv_me_46 : gp_me 46 = true := by decide +kernel
set_option maxRecDepth 100000 in
theorem gv_me_47 : gp_me 47 = true := by decide +kernel
set_option maxRecDepth 100000 in
theorem gv_me_48 : gp_me 48 = true := by decide +kernel
set_option maxRecDepth 100000 in
theorem gv_me_49 : gp_me 49 = true := by decide +kernel
set_option maxRecDepth 100000 in
theorem gv_me_50 : gp_me 50 = true := by decide +kernel
set_option maxRecDepth 100000 in
theorem gv_me_51 : gp_me 51 = true := by decide +kernel
set_option maxRecDepth 100000 in
theorem gv_me_52 : gp_me 52 = true := by decide +kernel
set_option maxRecDepth 100000 in
theorem gv_me_53 : gp_me 53 = true := by decide +kernel
set_option maxRecDepth 100000 in
theorem gv_me_54 : gp_me 54 = true := by decide +kernel
set_option maxRecDepth 100000 in
theorem gv_me_55 : gp_me 55 = true := by decide +kernel
set_option maxRecDepth 100000 in
theorem gv_me_56 : gp_me 56 = true := by decide +kernel
set_option maxRecDepth 100000 in
theorem gv_me_57 : gp_me 57 = true := by decide +kernel
set_option maxRecDepth 100000 in
theorem gv_me_58 : gp_me 58 = true := by decide +kernel
set_option maxRecDepth 100000 in
theorem gv_me_59 : gp_me 59 = true := by decide +kernel
set_option maxRecDepth 100000 in
theorem gv_me_60 : gp_me 60 = true := by decide +kernel
set_option maxRecDepth 100000 in
theorem gv_me_61 : gp_me 61 = true := by decide +kernel
set_option maxRecDepth 100000 in
theorem gv_me_62 : gp_me 62 = true := by decide +kernel
set_option maxRecDepth 100000 in
theorem gv_me_63 : gp_me 63 = true := by decide +kernel
set_option maxRecDepth 100000 in
theorem gv_me_64 : gp_me 64 = true := by decide +kernel
set_option maxRecDepth 100000 in
theorem gv_me_65 : gp_me 65 = true := by decide +kernel
set_option maxRecDepth 100000 in
theorem gv_me_66 : gp_me 66 = true := by decide +kernel
set_option maxRecDepth 100000 in
theorem gv_me_67 : gp_me 67 = true := by decide +kernel
set_option maxRecDepth 100000 in
theorem gv_me_68 : gp_me 68 = true := by decide +kernel
set_option maxRecDepth 100000 in
theorem gv_me_69 : gp_me 69 = true := by decide +kernel
set_option maxRecDepth 100000 in
theorem gv_me_70 : gp_me 70 = true := by decide +kernel
set_option maxRecDepth 100000 in
theorem gv_me_71 : gp_me 71 = true := by decide +kernel
set_option maxRecDepth 100000 in
theorem gv_me_72 : gp_me 72 = true := by decide +kernel
set_option maxRecDepth 100000 in
theorem gv_me_73 : gp_me 73 = true := by decide +kernel
set_option maxRecDepth 100000 in
theorem gv_me_74 : gp_me 74 = true := by decide +kernel
set_option maxRecDepth 100000 in
theorem gv_me_75 : gp_me 75 = true := by decide +kernel
set_option maxRecDepth 100000 in
theorem gv_me_76 : gp_me 76 = true := by decide +kernel
set_option maxRecDepth 100000 in
theorem gv_me_77 : gp_me 77 = true := by decide +kernel
set_option maxRecDepth 100000 in
theorem gv_me_78 : gp_me 78 = true := by decide +kernel
set_option maxRecDepth 100000 in
theorem gv_me_79 : gp_me 79 = true := by decide +kernel
set_option maxRecDepth 100000 in
theorem gv_me_80 : gp_me 80 = true := by decide +kernel
set_option maxRecDepth 100000 in
theorem gv_me_81 : gp_me 81 = true := by decide +kernel
set_option maxRecDepth 100000 in
theorem gv_me_82 : gp_me 82 = true := by decide +kernel
set_option maxRecDepth 100000 in
theorem gv_me_83 : gp_me 83 = true := by decide +kernel
set_option maxRecDepth 100000 in
theorem gv_me_84 : gp_me 84 = true := by decide +kernel
set_option maxRecDepth 100000 in
theorem gv_me_85 : gp_me 85 = true := by decide +kernel
set_option maxRecDepth 100000 in
theorem gv_me_86 : gp_me 86 = true := by decide +kernel
set_option maxRecDepth 100000 in
theorem gv_me_87 : gp_me 87 = true := by decide +kernel
set_option maxRecDepth 100000 in
theorem gv_me_88 : gp_me 88 = true := by decide +kernel
set_option maxRecDepth 100000 in
theorem gv_me_89 : gp_me 89 = true := by decide +kernel
set_option maxRecDepth 100000 in
theorem gv_me_90 : gp_me 90 = true := by decide +kernel
set_option maxRecDepth 100000 in
theorem gv_me_91 : gp_me 91 = true := by decide +kernel
set_option maxRecDepth 100000 in
theorem gv_me_92 : gp_me 92 = true := by decide +kernel
set_option maxRecDepth 100000 in
theorem gv_me_93 : gp_me 93 = true := by decide +kernel
set_option maxRecDepth 100000 in
theorem gv_me_94 : gp_me 94 = true := by decide +kernel
set_option maxRecDepth 100000 in
theorem gv_me_95 : gp_me 95 = true := by decide +kernel
set_option maxRecDepth 100000 in
theorem gv_me_96 : gp_me 96 = true := by decide +kernel
set_option maxRecDepth 100000 in
theorem gv_me_97 : gp_me 97 = true := by decide +kernel
set_option maxRecDepth 100000 in
theorem gv_me_98 : gp_me 98 = true := by decide +kernel
set_option maxRecDepth 100000 in
theorem gv_me_99 : gp_me 99 = true := by decide +kernel
set_option maxRecDepth 100000 in
theorem gv_me_100 : gp_me 100 = true := by decide +kernel
set_option maxRecDepth 100000 in
theorem gv_me_101 : gp_me 101 = true := by decide +kernel
set_option maxRecDepth 100000 in
theorem gv_me_102 : gp_me 102 = true := by decide +kernel
set_option maxRecDepth 100000 in
theorem gv_me_103 : gp_me 103 = true := by decide +kernel
set_option maxRecDepth 100000 in
theorem gv_me_104 : gp_me 104 = true := by decide +kernel
set_option maxRecDepth 100000 in
theorem gv_me_105 : gp_me 105 = true := by decide +kernel
set_option maxRecDepth 100000 in
theorem gv_me_106 : gp_me 106 = true := by decide +kernel
set_option maxRecDepth 100000 in
theorem gv_me_107 : gp_me 107 = true := by decide +kernel
set_option maxRecDepth 100000 in
theorem gv_me_108 : gp_me 108 = true := by decide +kernel
set_option maxRecDepth 100000 in
theorem gv_me_109 : gp_me 109 = true := by decide +kernel
set_option maxRecDepth 100000 in
theorem gv_me_110 : gp_me 110 = true := by decide +kernel
set_option maxRecDepth 100000 in
theorem gv_me_111 : gp_me 111 = true := by decide +kernel
set_option maxRecDepth 100000 in
theorem gv_me_112 : gp_me 112 = true := by decide +kernel
set_option maxRecDepth 100000 in
theorem gv_me_113 : gp_me 113 = true := by decide +kernel
set_option maxRecDepth 100000 in
theorem gv_me_114 : gp_me 114 = true := by decide +kernel
set_option maxRecDepth 100000 in
theorem gv_me_115 : gp_me 115 = true := by decide +kernel
set_option maxRecDepth 100000 in
theorem gv_me_116 : gp_me 116 = true := by decide +kernel
set_option maxRecDepth 100000 in
theorem gv_me_117 : gp_me 117 = true := by decide +kernel
set_option maxRecDepth 100000 in
theorem gv_me_118 : gp_me 118 = true := by decide +kernel
set_option maxRecDepth 100000 in
theorem gv_me_119 : gp_me 119 = true := by decide +kernel
set_option maxRecDepth 100000 in
theorem gv_me_120 : gp_me 120 = true := by decide +kernel
set_option maxRecDepth 100000 in
theorem gv_me_121 : gp_me 121 = true := by decide +kernel
set_option maxRecDepth 100000 in
theorem gv_me_122 : gp_me 122 = true := by decide +kernel
set_option maxRecDepth 100000 in
theorem gv_me_123 : gp_me 123 = true := by decide +kernel
set_option maxRecDepth 100000 in
theorem gv_me_124 : gp_me 124 = true := by decide +kernel
set_option maxRecDepth 100000 in
theorem gv_me_125 : gp_me 125 = true := by decide +kernel
set_option maxRecDepth 100000 in
theorem gv_me_126 : gp_me 126 = true := by decide +kernel
set_option maxRecDepth 100000 in
theorem gv_me_127 : gp_me 127 = true := by decide +kernel
set_option maxRecDepth 100000 in
theorem gv_me_128 : gp_me 128 = true := by decide +kernel
set_option maxRecDepth 100000 in
theorem gv_me_129 : gp_me 129 = true := by decide +kernel
set_option maxRecDepth 100000 in
theorem gv_me_130 : gp_me 130 = true := by decide +kernel
set_option maxRecDepth 100000 in
theorem gv_me_131 : gp_me 131 = true := by decide +kernel
set_option maxRecDepth 100000 in
theorem gv_me_132 : gp_me 132 = true := by decide +kernel
set_option maxRecDepth 100000 in
theorem gv_me_133 : gp_me 133 = true := by decide +kernel
set_option maxRecDepth 100000 in
theorem gv_me_134 : gp_me 134 = true := by decide +kernel
set_option maxRecDepth 100000 in
theorem gv_me_135 : gp_me 135 = true := by decide +kernel
set_option maxRecDepth 100000 in
theorem gv_me_136 : gp_me 136 = true := by decide +kernel
set_option maxRecDepth 100000 in
theorem gv_me_137 : gp_me 137 = true := by decide +kernel
set_option maxRecDepth 100000 in
theorem gv_me_138 : gp_me 138 = true := by decide +kernel
set_option maxRecDepth 100000 in
theorem gv_me_139 : gp_me 139 = true := by decide +kernel
set_option maxRecDepth 100000 in
theorem gv_me_140 : gp_me 140 = true := by decide +kernel
set_option maxRecDepth 100000 in
theorem gv_me_141 : gp_me 141 = true := by decide +kernel
set_option maxRecDepth 100000 in
theorem gv_me_142 : gp_me 142 = true := by decide +kernel
set_option maxRecDepth 100000 in
theorem gv_me_143 : gp_me 143 = true := by decide +kernel
set_option maxRecDepth 100000 in
theorem gv_me_144 : gp_me 144 = true := by decide +kernel
set_option maxRecDepth 100000 in
theorem gv_me_145 : gp_me 145 = true := by decide +kernel
set_option maxRecDepth 100000 in
theorem gv_me_146 : gp_me 146 = true := by decide +kernel
set_option maxRecDepth 100000 in
theorem gv_me_147 : gp_me 147 = true := by decide +kernel
set_option maxRecDepth 100000 in
theorem gv_me_148 : gp_me 148 = true := by decide +kernel
set_option maxRecDepth 100000 in
theorem gv_me_149 : gp_me 149 = true := by decide +kernel
set_option maxRecDepth 100000 in
theorem gv_me_150 : gp_me 150 = true := by decide +kernel
set_option maxRecDepth 100000 in
theorem gv_me_151 : gp_me 151 = true := by decide +kernel
set_option maxRecDepth 100000 in
theorem gv_me_152 : gp_me 152 = true := by decide +kernel
set_option maxRecDepth 100000 in
theorem gv_me_153 : gp_me 153 = true := by decide +kernel
set_option maxRecDepth 100000 in
theorem gv_me_154 : gp_me 154 = true := by decide +kernel
set_option maxRecDepth 100000 in
theorem gv_me_155 : gp_me 155 = true := by decide +kernel
set_option maxRecDepth 100000 in
theorem gv_me_156 : gp_me 156 = true := by decide +kernel
set_option maxRecDepth 100000 in
theorem gv_me_157 : gp_me 157 = true := by decide +kernel
set_option maxRecDepth 100000 in
theorem gv_me_158 : gp_me 158 = true := by decide +kernel
set_option maxRecDepth 100000 in
theorem gv_me_159 : gp_me 159 = true := by decide +kernel
set_option maxRecDepth 100000 in
theorem gv_me_160 : gp_me 160 = true := by decide +kernel
set_option maxRecDepth 100000 in
theorem gv_me_161 : gp_me 161 = true := by decide +kernel
set_option maxRecDepth 100000 in
theorem gv_me_162 : gp_me 162 = true := by decide +kernel
set_option maxRecDepth 100000 in
theorem gv_me_163 : gp_me 163 = true := by decide +kernel
set_option maxRecDepth 100000 in
theorem gv_me_164 : gp_me 164 = true := by decide +kernel
set_option maxRecDepth 100000 in
theorem gv_me_165 : gp_me 165 = true := by decide +kernel
set_option maxRecDepth 100000 in
theorem gv_me_all : ∀ y ∈ ([0, 1, 2, 3, 4, 5, 6, 7, 8, 9, 10, 11, 12, 13, 14, 15, 16, 17, 18, 19, 20, 21, 22, 23, 24, 25, 26, 27, 28, 29, 30, 31, 32, 33, 34, 35, 36, 37, 38, 39, 40, 41, 42, 43, 44, 45, 46, 47, 48, 49, 50, 51, 52, 53, 54, 55, 56, 57, 58, 59, 60, 61, 62, 63, 64, 65, 66, 67, 68, 69, 70, 71, 72, 73, 74, 75, 76, 77, 78, 79, 80, 81, 82, 83, 84, 85, 86, 87, 88, 89, 90, 91, 92, 93, 94, 95, 96, 97, 98, 99, 100, 101, 102, 103, 104, 105, 106, 107, 108, 109, 110, 111, 112, 113, 114, 115, 116, 117, 118, 119, 120, 121, 122, 123, 124, 125, 126, 127, 128, 129, 130, 131, 132, 133, 134, 135, 136, 137, 138, 139, 140, 141, 142, 143, 144, 145, 146, 147, 148, 149, 150, 151, 152, 153, 154, 155, 156, 157, 158, 159, 160, 161, 162, 163, 164, 165] : List Nat), gp_me y = true := List.forall_mem_cons.mpr ⟨gv_me_0, List.forall_mem_cons.mpr ⟨gv_me_1, List.forall_mem_cons.mpr ⟨gv_me_2, List.forall_mem_cons.mpr ⟨gv_me_3, List.forall_mem_cons.mpr ⟨gv_me_4, List.forall_mem_cons.mpr ⟨gv_me_5, List.forall_mem_cons.mpr ⟨gv_me_6, List.forall_mem_cons.mpr ⟨gv_me_7, List.forall_mem_cons.mpr ⟨gv_me_8, List.forall_mem_cons.mpr ⟨gv_me_9, List.forall_mem_cons.mpr ⟨gv_me_10, List.forall_mem_cons.mpr ⟨gv_me_11, List.forall_mem_cons.mpr ⟨gv_me_12, List.forall_mem_cons.mpr ⟨gv_me_13, List.forall_mem_cons.mpr ⟨gv_me_14, List.forall_mem_cons.mpr ⟨gv_me_15, List.forall_mem_cons.mpr ⟨gv_me_16, List.forall_mem_cons.mpr ⟨gv_me_17, List.forall_mem_cons.mpr ⟨gv_me_18, List.forall_mem_cons.mpr ⟨gv_me_19, List.forall_mem_cons.mpr ⟨gv_me_20, List.forall_mem_cons.mpr ⟨gv_me_21, List.forall_mem_cons.mpr ⟨gv_me_22, List.forall_mem_cons.mpr ⟨gv_me_23, List.forall_mem_cons.mpr ⟨gv_me_24, List.forall_mem_cons.mpr ⟨gv_me_25, List.forall_mem_cons.mpr ⟨gv_me_26, List.forall_mem_cons.mpr ⟨gv_me_27, List.forall_mem_cons.mpr ⟨gv_me_28, List.forall_mem_cons.mpr ⟨gv_me_29, List.forall_mem_cons.mpr ⟨gv_me_30, List.forall_mem_cons.mpr ⟨gv_me_31, List.forall_mem_cons.mpr ⟨gv_me_32, List.forall_mem_cons.mpr ⟨gv_me_33, List.forall_mem_cons.mpr ⟨gv_me_34, List.forall_mem_cons.mpr ⟨gv_me_35, List.forall_mem_cons.mpr ⟨gv_me_36, List.forall_mem_cons.mpr ⟨gv_me_37, List.forall_mem_cons.mpr ⟨gv_me_38, List.forall_mem_cons.mpr ⟨gv_me_39, List.forall_mem_cons.mpr ⟨gv_me_40, List.forall_mem_cons.mpr ⟨gv_me_41, List.forall_mem_cons.mpr ⟨gv_me_42, List.forall_mem_cons.mpr ⟨gv_me_43, List.forall_mem_cons.mpr ⟨gv_me_44, List.forall_mem_cons.mpr ⟨gv_me_45, List.forall_mem_cons.mpr ⟨gv_me_46, List.forall_mem_cons.mpr ⟨gv_me_47, List.forall_mem_cons.mpr ⟨gv_me_48, List.forall_mem_cons.mpr ⟨gv_me_49, List.forall_mem_cons.mpr ⟨gv_me_50, List.forall_mem_cons.mpr ⟨gv_me_51, List.forall_mem_cons.mpr ⟨gv_me_52, List.forall_mem_cons.mpr ⟨gv_me_53, List.forall_mem_cons.mpr ⟨gv_me_54, List.forall_mem_cons.mpr ⟨gv_me_55, List.forall_mem_cons.mpr ⟨gv_me_56, List.forall_mem_cons.mpr ⟨gv_me_57, List.forall_mem_cons.mpr ⟨gv_me_58, List.forall_mem_cons.mpr ⟨gv_me_59, List.forall_mem_cons.mpr ⟨gv_me_60, List.forall_mem_cons.mpr ⟨gv_me_61, List.forall_mem_cons.mpr ⟨gv_me_62, List.forall_mem_cons.mpr ⟨gv_me_63, List.forall_mem_cons.mpr ⟨gv_me_64, List.forall_mem_cons.mpr ⟨gv_me_65, List.forall_mem_cons.mpr ⟨gv_me_66, List.forall_mem_cons.mpr ⟨gv_me_67, List.forall_mem_cons.mpr ⟨gv_me_68, List.forall_mem_cons.mpr ⟨gv_me_69, List.forall_mem_cons.mpr ⟨gv_me_70, List.forall_mem_cons.mpr ⟨gv_me_71, List.forall_mem_cons.mpr ⟨gv_me_72, List.forall_mem_cons.mpr ⟨gv_me_73, List.forall_mem_cons.mpr ⟨gv_me_74, List.forall_mem_cons.mpr ⟨gv_me_75, List.forall_mem_cons.mpr ⟨gv_me_76, List.forall_mem_cons.mpr ⟨gv_me_77, List.forall_mem_cons.mpr ⟨gv_me_78, List.forall_mem_cons.mpr ⟨gv_me_79, List.forall_mem_cons.mpr ⟨gv_me_80, List.forall_mem_cons.mpr ⟨gv_me_81, List.forall_mem_cons.mpr ⟨gv_me_82, List.forall_mem_cons.mpr ⟨gv_me_83, List.forall_mem_cons.mpr ⟨gv_me_84, List.forall_mem_cons.mpr ⟨gv_me_85, List.forall_mem_cons.mpr ⟨gv_me_86, List.forall_mem_cons.mpr ⟨gv_me_87, List.forall_mem_cons.mpr ⟨gv_me_88, List.forall_mem_cons.mpr ⟨gv_me_89, List.forall_mem_cons.mpr ⟨gv_me_90, List.forall_mem_cons.mpr ⟨gv_me_91, List.forall_mem_cons.mpr ⟨gv_me_92, List.forall_mem_cons.mpr ⟨gv_me_93, List.forall_mem_cons.mpr ⟨gv_me_94, List.forall_mem_cons.mpr ⟨gv_me_95, List.forall_mem_cons.mpr ⟨gv_me_96, List.forall_mem_cons.mpr ⟨gv_me_97, List.forall_mem_cons.mpr ⟨gv_me_98, List.forall_mem_cons.mpr ⟨gv_me_99, List.forall_mem_cons.mpr ⟨gv_me_100, List.forall_mem_cons.mpr ⟨gv_me_101, List.forall_mem_cons.mpr ⟨gv_me_102, List.forall_mem_cons.mpr ⟨gv_me_103, List.forall_mem_cons.mpr ⟨gv_me_104, List.forall_mem_cons.mpr ⟨gv_me_105, List.forall_mem_cons.mpr ⟨gv_me_106, List.forall_mem_cons.mpr ⟨gv_me_107, List.forall_mem_cons.mpr ⟨gv_me_108, List.forall_mem_cons.mpr ⟨gv_me_109, List.forall_mem_cons.mpr ⟨gv_me_110, List.forall_mem_cons.mpr ⟨gv_me_111, List.forall_mem_cons.mpr ⟨gv_me_112, List.forall_mem_cons.mpr ⟨gv_me_113, List.forall_mem_cons.mpr ⟨gv_me_114, List.forall_mem_cons.mpr ⟨gv_me_115, List.forall_mem_cons.mpr ⟨gv_me_116, List.forall_mem_cons.mpr ⟨gv_me_117, List.forall_mem_cons.mpr ⟨gv_me_118, List.forall_mem_cons.mpr ⟨gv_me_119, List.forall_mem_cons.mpr ⟨gv_me_120, List.forall_mem_cons.mpr ⟨gv_me_121, List.forall_mem_cons.mpr ⟨gv_me_122, List.forall_mem_cons.mpr ⟨gv_me_123, List.forall_mem_cons.mpr ⟨gv_me_124, List.forall_mem_cons.mpr ⟨gv_me_125, List.forall_mem_cons.mpr ⟨gv_me_126, List.forall_mem_cons.mpr ⟨gv_me_127, List.forall_mem_cons.mpr ⟨gv_me_128, List.forall_mem_cons.mpr ⟨gv_me_129, List.forall_mem_cons.mpr ⟨gv_me_130, List.forall_mem_cons.mpr ⟨gv_me_131, List.forall_mem_cons.mpr ⟨gv_me_132, List.forall_mem_cons.mpr ⟨gv_me_133, List.forall_mem_cons.mpr ⟨gv_me_134, List.forall_mem_cons.mpr ⟨gv_me_135, List.forall_mem_cons.mpr ⟨gv_me_136, List.forall_mem_cons.mpr ⟨gv_me_137, List.forall_mem_cons.mpr ⟨gv_me_138, List.forall_mem_cons.mpr ⟨gv_me_139, List.forall_mem_cons.mpr ⟨gv_me_140, List.forall_mem_cons.mpr ⟨gv_me_141, List.forall_mem_cons.mpr ⟨gv_me_142, List.forall_mem_cons.mpr ⟨gv_me_143, List.forall_mem_cons.mpr ⟨gv_me_144, List.forall_mem_cons.mpr ⟨gv_me_145, List.forall_mem_cons.mpr ⟨gv_me_146, List.forall_mem_cons.mpr ⟨gv_me_147, List.forall_mem_cons.mpr ⟨gv_me_148, List.forall_mem_cons.mpr ⟨gv_me_149, List.forall_mem_cons.mpr ⟨gv_me_150, List.forall_mem_cons.mpr ⟨gv_me_151, List.forall_mem_cons.mpr ⟨gv_me_152, List.forall_mem_cons.mpr ⟨gv_me_153, List.forall_mem_cons.mpr ⟨gv_me_154, List.forall_mem_cons.mpr ⟨gv_me_155, List.forall_mem_cons.mpr ⟨gv_me_156, List.forall_mem_cons.mpr ⟨gv_me_157, List.forall_mem_cons.mpr ⟨gv_me_158, List.forall_mem_cons.mpr ⟨gv_me_159, List.forall_mem_cons.mpr ⟨gv_me_160, List.forall_mem_cons.mpr ⟨gv_me_161, List.forall_mem_cons.mpr ⟨gv_me_162, List.forall_mem_cons.mpr ⟨gv_me_163, List.forall_mem_cons.mpr ⟨gv_me_164, List.forall_mem_cons.mpr ⟨gv_me_165, fun _ h => absurd h List.not_mem_nil⟩⟩⟩⟩⟩⟩⟩⟩⟩⟩⟩⟩⟩⟩⟩⟩⟩⟩⟩⟩⟩⟩⟩⟩⟩⟩⟩⟩⟩⟩⟩⟩⟩⟩⟩⟩⟩⟩⟩⟩⟩⟩⟩⟩⟩⟩⟩⟩⟩⟩⟩⟩⟩⟩⟩⟩⟩⟩⟩⟩⟩⟩⟩⟩⟩⟩⟩⟩⟩⟩⟩⟩⟩⟩⟩⟩⟩⟩⟩⟩⟩⟩⟩⟩⟩⟩⟩⟩⟩⟩⟩⟩⟩⟩⟩⟩⟩⟩⟩⟩⟩⟩⟩⟩⟩⟩⟩⟩⟩⟩⟩⟩⟩⟩⟩⟩⟩⟩⟩⟩⟩⟩⟩⟩⟩⟩⟩⟩⟩⟩⟩⟩⟩⟩⟩⟩⟩⟩⟩⟩⟩⟩⟩⟩⟩⟩⟩⟩⟩⟩⟩⟩⟩⟩⟩⟩⟩⟩⟩⟩⟩⟩⟩⟩⟩⟩
theorem gv_me {y : Nat} (h : y < gm_CI.length) : gp_me y = true := gv_me_all y (by
  have e : List.range gm_CI.length = ([0, 1, 2, 3, 4, 5, 6, 7, 8, 9, 10, 11, 12, 13, 14, 15, 16, 17, 18, 19, 20, 21, 22, 23, 24, 25, 26, 27, 28, 29, 30, 31, 32, 33, 34, 35, 36, 37, 38, 39, 40, 41, 42, 43, 44, 45, 46, 47, 48, 49, 50, 51, 52, 53, 54, 55, 56, 57, 58, 59, 60, 61, 62, 63, 64, 65, 66, 67, 68, 69, 70, 71, 72, 73, 74, 75, 76, 77, 78, 79, 80, 81, 82, 83, 84, 85, 86, 87, 88, 89, 90, 91, 92, 93, 94, 95, 96, 97, 98, 99, 100, 101, 102, 103, 104, 105, 106, 107, 108, 109, 110, 111, 112, 113, 114, 115, 116, 117, 118, 119, 120, 121, 122, 123, 124, 125, 126, 127, 128, 129, 130, 131, 132, 133, 134, 135, 136, 137, 138, 139, 140, 141, 142, 143, 144, 145, 146, 147, 148, 149, 150, 151, 152, 153, 154, 155, 156, 157, 158, 159, 160, 161, 162, 163, 164, 165] : List Nat) := by decide +kernel
  rw [← e]; exact List.mem_range.mpr h)
