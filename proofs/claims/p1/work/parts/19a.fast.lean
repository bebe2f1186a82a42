def s_d1 : DecidableEq (String × Bool) := inferInstance
def s_d2 : DecidableEq (Nat × String × Bool) := @instDecidableEqProd _ _ inferInstance s_d1
def s_d3 : DecidableEq (Nat × Nat × String × Bool) := @instDecidableEqProd _ _ inferInstance s_d2
def s_d4 : DecidableEq (Nat × Nat × Nat × String × Bool) := @instDecidableEqProd _ _ inferInstance s_d3
def s_d5 : DecidableEq (String × Nat × Nat × Nat × String × Bool) := @instDecidableEqProd _ _ inferInstance s_d4
def s_d6 : DecidableEq (Nat × String × Nat × Nat × Nat × String × Bool) := @instDecidableEqProd _ _ inferInstance s_d5
def s_loL : List (List (Nat)) := [[2, 1, 2, 2, 1, 2, 1, 1, 1, 1, 1, 4, 5],
  [3, 2, 1, 3, 4, 4, 2, 4, 1, 4, 2, 4, 1],
  [5, 6, 5, 2, 4, 2, 2, 2, 3, 9, 8, 2, 2],
  [3, 2, 2, 2, 2, 1, 1, 10, 3, 4, 3, 6, 6],
  [6, 2, 2, 4, 5, 5, 2, 2, 5, 5, 4, 4, 3],
  [1, 4, 5, 1, 4, 2, 2, 3, 4, 4, 2, 1, 3],
  [4, 3, 3, 1, 1, 2, 3, 4, 1, 2, 5, 5, 4],
  [2, 4, 4, 4, 2, 5, 5, 4, 7, 2, 2, 4, 4],
  [6, 4, 4, 5, 7, 8, 3, 4, 4, 5, 5, 3, 4],
  [5, 3, 2, 5, 6, 4, 5, 5, 3, 3, 2, 4, 4],
  [2, 3, 1, 4, 2, 2, 3, 3, 2, 3, 2, 4, 7],
  [5, 3, 2, 2, 4, 2, 3, 4, 4, 2, 2, 6, 4],
  [5, 4, 7, 7, 2, 9, 5, 2, 8, 9]]
def s_lo (y : Nat) : Nat := (s_loL.getD (y / 13) []).getD (y % 13) 0
set_option maxRecDepth 100000 in
theorem s_lo_v : (List.range 169).all (fun y => decide (s_lo y = gLo y)) = true := by decide +kernel
def s_KL : List (List (Nat)) := [[0, 1, 2, 3, 4, 5, 6, 7, 8, 9, 10, 5, 11],
  [10, 10, 8, 12, 12, 13, 13, 8, 8, 8, 8, 10, 10],
  [5, 11, 10, 5, 11, 10, 3, 3, 2, 5, 11, 10, 10],
  [14, 15, 8, 8, 16, 8, 16, 10, 5, 11, 10, 5, 11],
  [10, 5, 5, 5, 5, 11, 10, 10, 10, 10, 5, 11, 10],
  [0, 5, 11, 9, 10, 2, 3, 5, 11, 9, 10, 5, 5],
  [11, 10, 2, 3, 3, 5, 11, 9, 9, 10, 5, 11, 10],
  [0, 3, 0, 3, 0, 3, 3, 3, 3, 3, 3, 5, 11],
  [9, 9, 9, 9, 9, 9, 9, 10, 5, 11, 10, 10, 5],
  [11, 10, 2, 5, 11, 10, 5, 11, 10, 3, 5, 11, 10],
  [10, 5, 8, 10, 0, 1, 2, 3, 3, 5, 5, 11, 9],
  [10, 10, 10, 5, 11, 10, 5, 11, 10, 10, 5, 5, 5],
  [5, 11, 10, 10, 10, 5, 5, 10, 10, 11]]
def s_K (y : Nat) : Nat := (s_KL.getD (y / 13) []).getD (y % 13) 0
set_option maxRecDepth 100000 in
theorem s_K_v : (List.range 169).all (fun y => decide (s_K y = gK y)) = true := by decide +kernel
def s_tTL : List (List (List (Nat × String × Nat × Nat × Nat × String × Bool))) := [[[], [], [], [], [], [], [], [], [], [], [], [(13, "java/lang/IllegalArgumentException", 30, 32, 34, "a LIMIT is 10 to 300", false), (35, "java/lang/IllegalStateException", 41, 43, 45, "there are 8 BARS", false)], []],
  [[], [], [], [], [], [], [], [], [], [], [], [], []],
  [[(11, "java/lang/IllegalArgumentException", 30, 62, 34, "a WEIGHT is 1 to 90", false), (31, "java/lang/IllegalArgumentException", 30, 64, 34, "a DROP is 0 to 60", false), (50, "java/lang/IllegalArgumentException", 30, 66, 34, "a THICKNESS is 0 to 2", false), (69, "java/lang/IllegalStateException", 41, 71, 45, "there are 10 PIECES", false)], [], [], [(11, "java/lang/IllegalArgumentException", 30, 82, 34, "a CUE is 0 to 5, or NONE", false), (33, "java/lang/IllegalStateException", 41, 87, 45, "there are 6 CUES", false)], [], [], [(12, "java/lang/IndexOutOfBoundsException", 84, 91, 88, "no such CUE", false)], [(12, "java/lang/IndexOutOfBoundsException", 84, 86, 88, "no such BAR", false)], [], [(30, "java/lang/IllegalArgumentException", 30, 106, 34, "a TARGET is 0 to 120", false), (53, "java/lang/IllegalArgumentException", 30, 108, 34, "a SPEED is 1 to 6", false), (75, "java/lang/IllegalArgumentException", 30, 110, 34, "a DELAY is 0 to 20", false), (96, "java/lang/IllegalStateException", 41, 115, 45, "that CUE RUNS", false), (116, "java/lang/IllegalStateException", 41, 120, 45, "that CUE has 6 MOVES", false), (139, "java/lang/IllegalStateException", 41, 126, 45, "that CUE has a MOVE of that BAR", false)], [], [], []],
  [[], [], [], [], [], [], [], [], [(9, "java/lang/IllegalArgumentException", 30, 146, 34, "a CREW is 0 to 5", false)], [], [], [], []],
  [[], [(12, "java/lang/IndexOutOfBoundsException", 329, 331, 333, "no such PIECE", true)], [(11, "java/lang/IllegalStateException", 41, 189, 45, "a CUE RUNS", false), (28, "java/lang/IllegalStateException", 41, 336, 45, "HEIGHT is above 0", true)], [], [(24, "java/lang/IllegalStateException", 41, 162, 45, "that PIECE is not in the STORE", false), (58, "java/lang/IllegalStateException", 41, 171, 45, "LOAD would be above LIMIT", false)], [], [], [], [], [], [(14, "java/lang/IllegalStateException", 41, 176, 45, "that PIECE is in the STORE", false)], [], []],
  [[], [(20, "java/lang/IllegalArgumentException", 30, 178, 34, "a COUNTER is 0 to 300", false), (37, "java/lang/IllegalStateException", 41, 180, 45, "that BAR has a MOTOR", false)], [], [], [], [], [], [(20, "java/lang/IllegalStateException", 41, 189, 45, "a CUE RUNS", false)], [], [], [], [(11, "java/lang/IllegalStateException", 41, 334, 45, "no CUE RUNS", true)], []],
  [[], [], [], [], [], [], [], [], [], [], [], [], []],
  [[], [], [], [], [], [], [], [], [], [], [], [(11, "java/lang/IllegalArgumentException", 30, 210, 34, "seconds are 1 to 120", false), (36, "java/lang/IllegalStateException", 41, 215, 45, "NOW would be above 3000", false)], []],
  [[], [], [], [], [], [], [], [], [(164, "java/lang/IllegalArgumentException", 30, 235, 34, "what is 0 to 11", false)], [], [], [], [(56, "java/lang/IllegalArgumentException", 30, 237, 34, "what is 0 to 3", false)]],
  [[], [], [(12, "java/lang/IndexOutOfBoundsException", 29, 31, 33, "no such MOVE", false)], [(88, "java/lang/IllegalArgumentException", 30, 249, 34, "what is 0 to 5", false)], [], [], [], [], [], [], [(213, "java/lang/IllegalArgumentException", 30, 277, 34, "what is 0 to 15", true)], [], []],
  [[], [], [], [], [], [], [], [], [], [], [], [], []],
  [[], [], [], [], [], [], [(11, "java/lang/IllegalArgumentException", 30, 286, 34, "seconds are 1 to 60", true)], [], [], [], [], [], []],
  [[(9, "java/lang/IllegalArgumentException", 30, 292, 34, "a bit is no PIECE", true)], [], [], [], [], [], [], [], [], []]]
def s_tT (y : Nat) : List (Nat × String × Nat × Nat × Nat × String × Bool) := (s_tTL.getD (y / 13) []).getD (y % 13) []
set_option maxRecDepth 100000 in
theorem s_tT_v : (List.range 169).all (fun y => @decide (s_tT y = gm_T.getD y []) (@instDecidableEqList _ s_d6 (s_tT y) (gm_T.getD y []))) = true := by decide +kernel
def s_tIL : List (List (List (List (Nat × Instr × Nat)))) := [[gi_0, gi_1, gi_2, gi_3, gi_4, gi_5, gi_6, gi_7, gi_8, gi_9, gi_10, gi_11, gi_12],
  [gi_13, gi_14, gi_15, gi_16, gi_17, gi_18, gi_19, gi_20, gi_21, gi_22, gi_23, gi_24, gi_25],
  [gi_26, gi_27, gi_28, gi_29, gi_30, gi_31, gi_32, gi_33, gi_34, gi_35, gi_36, gi_37, gi_38],
  [gi_39, gi_40, gi_41, gi_42, gi_43, gi_44, gi_45, gi_46, gi_47, gi_48, gi_49, gi_50, gi_51],
  [gi_52, gi_53, gi_54, gi_55, gi_56, gi_57, gi_58, gi_59, gi_60, gi_61, gi_62, gi_63, gi_64],
  [gi_65, gi_66, gi_67, gi_68, gi_69, gi_70, gi_71, gi_72, gi_73, gi_74, gi_75, gi_76, gi_77],
  [gi_78, gi_79, gi_80, gi_81, gi_82, gi_83, gi_84, gi_85, gi_86, gi_87, gi_88, gi_89, gi_90],
  [gi_91, gi_92, gi_93, gi_94, gi_95, gi_96, gi_97, gi_98, gi_99, gi_100, gi_101, gi_102, gi_103],
  [gi_104, gi_105, gi_106, gi_107, gi_108, gi_109, gi_110, gi_111, gi_112, gi_113, gi_114, gi_115, gi_116],
  [gi_117, gi_118, gi_119, gi_120, gi_121, gi_122, gi_123, gi_124, gi_125, gi_126, gi_127, gi_128, gi_129],
  [gi_130, gi_131, gi_132, gi_133, gi_134, gi_135, gi_136, gi_137, gi_138, gi_139, gi_140, gi_141, gi_142],
  [gi_143, gi_144, gi_145, gi_146, gi_147, gi_148, gi_149, gi_150, gi_151, gi_152, gi_153, gi_154, gi_155],
  [gi_156, gi_157, gi_158, gi_159, gi_160, gi_161, gi_162, gi_163, gi_164, gi_165]]
def s_tI (y : Nat) : List (List (Nat × Instr × Nat)) := (s_tIL.getD (y / 13) []).getD (y % 13) []
set_option maxRecDepth 100000 in
theorem s_tI_v : (List.range 169).all (fun y => decide (s_tI y = (gCq y).2)) = true := by decide +kernel
set_option maxRecDepth 100000 in
theorem s_lo_eq (y : Nat) : s_lo y = gLo y := by
  rcases Nat.lt_or_ge y 169 with h | h
  · exact of_decide_eq_true (List.all_eq_true.mp s_lo_v y (List.mem_range.mpr h))
  · unfold s_lo gLo
    rw [g_getD_ge (L := s_loL) (Nat.le_trans (show s_loL.length ≤ 13 by decide +kernel) (show 13 ≤ y / 13 by omega)), g_getD_ge (Nat.le_trans (show gm_L.length ≤ 169 by decide +kernel) h)]
    rfl
set_option maxRecDepth 100000 in
theorem s_K_eq (y : Nat) : s_K y = gK y := by
  rcases Nat.lt_or_ge y 169 with h | h
  · exact of_decide_eq_true (List.all_eq_true.mp s_K_v y (List.mem_range.mpr h))
  · unfold s_K gK
    rw [g_getD_ge (L := s_KL) (Nat.le_trans (show s_KL.length ≤ 13 by decide +kernel) (show 13 ≤ y / 13 by omega)), g_getD_ge (Nat.le_trans (show gm_K.length ≤ 169 by decide +kernel) h)]
    rfl
set_option maxRecDepth 100000 in
theorem s_tT_eq (y : Nat) : s_tT y = gm_T.getD y [] := by
  rcases Nat.lt_or_ge y 169 with h | h
  · exact @of_decide_eq_true _ (@instDecidableEqList _ s_d6 (s_tT y) (gm_T.getD y [])) (List.all_eq_true.mp s_tT_v y (List.mem_range.mpr h))
  · unfold s_tT
    rw [g_getD_ge (L := s_tTL) (Nat.le_trans (show s_tTL.length ≤ 13 by decide +kernel) (show 13 ≤ y / 13 by omega)), g_getD_ge (Nat.le_trans (show gm_T.length ≤ 169 by decide +kernel) h)]
    rfl
set_option maxRecDepth 100000 in
theorem s_tI_eq (y : Nat) : s_tI y = (gCq y).2 := by
  rcases Nat.lt_or_ge y 169 with h | h
  · exact of_decide_eq_true (List.all_eq_true.mp s_tI_v y (List.mem_range.mpr h))
  · unfold s_tI gCq
    rw [g_getD_ge (L := s_tIL) (Nat.le_trans (show s_tIL.length ≤ 13 by decide +kernel) (show 13 ≤ y / 13 by omega)), g_getD_ge (Nat.le_trans (show gm_CI.length ≤ 169 by decide +kernel) h)]
    rfl
def s_thr (y pc : Nat) : Option (String × Nat × Nat × Nat × String × Bool) := (s_tT y).lookup pc
def s_ic (y pc : Nat) : Option (Instr × Nat) := ((s_tI y).getD (pc / 32) []).lookup pc
theorem s_thr_eq (y pc : Nat) : s_thr y pc = gThr y pc := by unfold s_thr gThr; rw [s_tT_eq]
theorem s_ic_eq (y pc : Nat) : s_ic y pc = gI y pc := by unfold s_ic gI; rw [s_tI_eq]
def s_fld (y ix : Nat) : Option (Nat × Nat × Nat × Option String × String) := (gc_fl.getD (s_K y) []).lookup ix
theorem s_fld_eq (y ix : Nat) : s_fld y ix = gFld y ix := by unfold s_fld gFld; rw [s_K_eq]
def s_iv (y ix : Nat) : Option (Nat × Nat × Nat × Nat × Nat × Nat × Nat × Nat × Option String) := (gc_iv.getD (s_K y) []).lookup ix
theorem s_iv_eq (y ix : Nat) : s_iv y ix = gIv y ix := by unfold s_iv gIv; rw [s_K_eq]
