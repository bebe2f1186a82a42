noncomputable def s_tJL : List (List (List (List (Nat × sOp)))) := [[gj_0, gj_1, gj_2, gj_3, gj_4, gj_5, gj_6, gj_7, gj_8, gj_9, gj_10, gj_11, gj_12],
  [gj_13, gj_14, gj_15, gj_16, gj_17, gj_18, gj_19, gj_20, gj_21, gj_22, gj_23, gj_24, gj_25],
  [gj_26, gj_27, gj_28, gj_29, gj_30, gj_31, gj_32, gj_33, gj_34, gj_35, gj_36, gj_37, gj_38],
  [gj_39, gj_40, gj_41, gj_42, gj_43, gj_44, gj_45, gj_46, gj_47, gj_48, gj_49, gj_50, gj_51],
  [gj_52, gj_53, gj_54, gj_55, gj_56, gj_57, gj_58, gj_59, gj_60, gj_61, gj_62, gj_63, gj_64],
  [gj_65, gj_66, gj_67, gj_68, gj_69, gj_70, gj_71, gj_72, gj_73, gj_74, gj_75, gj_76, gj_77],
  [gj_78, gj_79, gj_80, gj_81, gj_82, gj_83, gj_84, gj_85, gj_86, gj_87, gj_88, gj_89, gj_90],
  [gj_91, gj_92, gj_93, gj_94, gj_95, gj_96, gj_97, gj_98, gj_99, gj_100, gj_101, gj_102, gj_103],
  [gj_104, gj_105, gj_106, gj_107, gj_108, gj_109, gj_110, gj_111, gj_112, gj_113, gj_114, gj_115, gj_116],
  [gj_117, gj_118, gj_119, gj_120, gj_121, gj_122, gj_123, gj_124, gj_125, gj_126, gj_127, gj_128, gj_129],
  [gj_130, gj_131, gj_132, gj_133, gj_134, gj_135, gj_136, gj_137, gj_138, gj_139, gj_140, gj_141, gj_142],
  [gj_143, gj_144, gj_145, gj_146, gj_147, gj_148, gj_149, gj_150, gj_151, gj_152, gj_153, gj_154, gj_155],
  [gj_156, gj_157, gj_158, gj_159, gj_160, gj_161, gj_162, gj_163, gj_164, gj_165]]
noncomputable def s_tJ (y : Nat) : List (List (Nat × sOp)) := s_nth [] (s_nth [] s_tJL (y / 13)) (y % 13)
def s_gi : List (List (List (Nat × Instr × Nat))) := [gi_0, gi_1, gi_2, gi_3, gi_4, gi_5, gi_6, gi_7, gi_8, gi_9, gi_10, gi_11, gi_12, gi_13, gi_14, gi_15, gi_16, gi_17, gi_18, gi_19, gi_20, gi_21, gi_22, gi_23, gi_24, gi_25, gi_26, gi_27, gi_28, gi_29, gi_30, gi_31, gi_32, gi_33, gi_34, gi_35, gi_36, gi_37, gi_38, gi_39, gi_40, gi_41, gi_42, gi_43, gi_44, gi_45, gi_46, gi_47, gi_48, gi_49, gi_50, gi_51, gi_52, gi_53, gi_54, gi_55, gi_56, gi_57, gi_58, gi_59, gi_60, gi_61, gi_62, gi_63, gi_64, gi_65, gi_66, gi_67, gi_68, gi_69, gi_70, gi_71, gi_72, gi_73, gi_74, gi_75, gi_76, gi_77, gi_78, gi_79, gi_80, gi_81, gi_82, gi_83, gi_84, gi_85, gi_86, gi_87, gi_88, gi_89, gi_90, gi_91, gi_92, gi_93, gi_94, gi_95, gi_96, gi_97, gi_98, gi_99, gi_100, gi_101, gi_102, gi_103, gi_104, gi_105, gi_106, gi_107, gi_108, gi_109, gi_110, gi_111, gi_112, gi_113, gi_114, gi_115, gi_116, gi_117, gi_118, gi_119, gi_120, gi_121, gi_122, gi_123, gi_124, gi_125, gi_126, gi_127, gi_128, gi_129, gi_130, gi_131, gi_132, gi_133, gi_134, gi_135, gi_136, gi_137, gi_138, gi_139, gi_140, gi_141, gi_142, gi_143, gi_144, gi_145, gi_146, gi_147, gi_148, gi_149, gi_150, gi_151, gi_152, gi_153, gi_154, gi_155, gi_156, gi_157, gi_158, gi_159, gi_160, gi_161, gi_162, gi_163, gi_164, gi_165]
theorem s_tJ_v : ∀ y, y < 166 → s_tJ y = (s_gi.getD y []).map (fun ch => ch.map (fun e => (e.1, s_op e.2.1)))
  | 0, _ => gw_0
  | 1, _ => gw_1
  | 2, _ => gw_2
  | 3, _ => gw_3
  | 4, _ => gw_4
  | 5, _ => gw_5
  | 6, _ => gw_6
  | 7, _ => gw_7
  | 8, _ => gw_8
  | 9, _ => gw_9
  | 10, _ => gw_10
  | 11, _ => gw_11
  | 12, _ => gw_12
  | 13, _ => gw_13
  | 14, _ => gw_14
  | 15, _ => gw_15
  | 16, _ => gw_16
  | 17, _ => gw_17
  | 18, _ => gw_18
  | 19, _ => gw_19
  | 20, _ => gw_20
  | 21, _ => gw_21
  | 22, _ => gw_22
  | 23, _ => gw_23
  | 24, _ => gw_24
  | 25, _ => gw_25
  | 26, _ => gw_26
  | 27, _ => gw_27
  | 28, _ => gw_28
  | 29, _ => gw_29
  | 30, _ => gw_30
  | 31, _ => gw_31
  | 32, _ => gw_32
  | 33, _ => gw_33
  | 34, _ => gw_34
  | 35, _ => gw_35
  | 36, _ => gw_36
  | 37, _ => gw_37
  | 38, _ => gw_38
  | 39, _ => gw_39
  | 40, _ => gw_40
  | 41, _ => gw_41
  | 42, _ => gw_42
  | 43, _ => gw_43
  | 44, _ => gw_44
  | 45, _ => gw_45
  | 46, _ => gw_46
  | 47, _ => gw_47
  | 48, _ => gw_48
  | 49, _ => gw_49
  | 50, _ => gw_50
  | 51, _ => gw_51
  | 52, _ => gw_52
  | 53, _ => gw_53
  | 54, _ => gw_54
  | 55, _ => gw_55
  | 56, _ => gw_56
  | 57, _ => gw_57
  | 58, _ => gw_58
  | 59, _ => gw_59
  | 60, _ => gw_60
  | 61, _ => gw_61
  | 62, _ => gw_62
  | 63, _ => gw_63
  | 64, _ => gw_64
  | 65, _ => gw_65
  | 66, _ => gw_66
  | 67, _ => gw_67
  | 68, _ => gw_68
  | 69, _ => gw_69
  | 70, _ => gw_70
  | 71, _ => gw_71
  | 72, _ => gw_72
  | 73, _ => gw_73
  | 74, _ => gw_74
  | 75, _ => gw_75
  | 76, _ => gw_76
  | 77, _ => gw_77
  | 78, _ => gw_78
  | 79, _ => gw_79
  | 80, _ => gw_80
  | 81, _ => gw_81
  | 82, _ => gw_82
  | 83, _ => gw_83
  | 84, _ => gw_84
  | 85, _ => gw_85
  | 86, _ => gw_86
  | 87, _ => gw_87
  | 88, _ => gw_88
  | 89, _ => gw_89
  | 90, _ => gw_90
  | 91, _ => gw_91
  | 92, _ => gw_92
  | 93, _ => gw_93
  | 94, _ => gw_94
  | 95, _ => gw_95
  | 96, _ => gw_96
  | 97, _ => gw_97
  | 98, _ => gw_98
  | 99, _ => gw_99
  | 100, _ => gw_100
  | 101, _ => gw_101
  | 102, _ => gw_102
  | 103, _ => gw_103
  | 104, _ => gw_104
  | 105, _ => gw_105
  | 106, _ => gw_106
  | 107, _ => gw_107
  | 108, _ => gw_108
  | 109, _ => gw_109
  | 110, _ => gw_110
  | 111, _ => gw_111
  | 112, _ => gw_112
  | 113, _ => gw_113
  | 114, _ => gw_114
  | 115, _ => gw_115
  | 116, _ => gw_116
  | 117, _ => gw_117
  | 118, _ => gw_118
  | 119, _ => gw_119
  | 120, _ => gw_120
  | 121, _ => gw_121
  | 122, _ => gw_122
  | 123, _ => gw_123
  | 124, _ => gw_124
  | 125, _ => gw_125
  | 126, _ => gw_126
  | 127, _ => gw_127
  | 128, _ => gw_128
  | 129, _ => gw_129
  | 130, _ => gw_130
  | 131, _ => gw_131
  | 132, _ => gw_132
  | 133, _ => gw_133
  | 134, _ => gw_134
  | 135, _ => gw_135
  | 136, _ => gw_136
  | 137, _ => gw_137
  | 138, _ => gw_138
  | 139, _ => gw_139
  | 140, _ => gw_140
  | 141, _ => gw_141
  | 142, _ => gw_142
  | 143, _ => gw_143
  | 144, _ => gw_144
  | 145, _ => gw_145
  | 146, _ => gw_146
  | 147, _ => gw_147
  | 148, _ => gw_148
  | 149, _ => gw_149
  | 150, _ => gw_150
  | 151, _ => gw_151
  | 152, _ => gw_152
  | 153, _ => gw_153
  | 154, _ => gw_154
  | 155, _ => gw_155
  | 156, _ => gw_156
  | 157, _ => gw_157
  | 158, _ => gw_158
  | 159, _ => gw_159
  | 160, _ => gw_160
  | 161, _ => gw_161
  | 162, _ => gw_162
  | 163, _ => gw_163
  | 164, _ => gw_164
  | 165, _ => gw_165
  | n + 166, h => absurd h (by omega)
set_option maxRecDepth 100000 in
theorem s_gi_v : (List.range 166).all (fun y => decide (s_gi.getD y [] = (gCq y).2)) = true := by decide +kernel
noncomputable def s_jc (y pc : Nat) : Option sOp := s_lk (s_nth [] (s_tJ y) (pc / 32)) pc
theorem s_lookm {α β : Type} (f : α → β) : ∀ (l : List (Nat × α)) (k : Nat), (l.map (fun e => (e.1, f e.2))).lookup k = (l.lookup k).map f
  | [], _ => rfl
  | (a, b) :: l, k => by
    simp only [List.map_cons, List.lookup_cons]
    cases hk : (k == a) with
    | true => rfl
    | false => exact s_lookm f l k
theorem s_jc_i {y pc : Nat} {q : sOp} (h : s_jc y pc = some q) : ∃ (i : Instr) (n : Nat), gI y pc = some (i, n) ∧ s_op i = q := by
  unfold s_jc at h
  rw [s_lk_eq, s_nth_eq] at h
  rcases Nat.lt_or_ge y 166 with hy | hy
  · rw [s_tJ_v y hy, of_decide_eq_true (List.all_eq_true.mp s_gi_v y (List.mem_range.mpr hy))] at h
    rw [List.getD_eq_getElem?_getD, List.getElem?_map] at h
    unfold gI
    rw [List.getD_eq_getElem?_getD]
    cases hc : (gCq y).2[pc / 32]? with
    | none => rw [hc] at h; cases h
    | some ch =>
      rw [hc] at h
      have h2 : (ch.map (fun e => (e.1, (fun e2 : Instr × Nat => s_op e2.1) e.2))).lookup pc = some q := h
      replace h2 := (s_lookm (fun e2 : Instr × Nat => s_op e2.1) ch pc).symm.trans h2
      obtain ⟨iv, h3, h4⟩ := Option.map_eq_some_iff.mp h2
      exact ⟨iv.1, iv.2, h3, h4⟩
  · have e : s_tJ y = [] := by
      unfold s_tJ
      rw [s_nth_eq, s_nth_eq]
      rcases Nat.lt_or_ge y 169 with h9 | h9
      · have : y / 13 = 12 := by omega
        rw [this]
        exact g_getD_ge (L := s_tJL.getD 12 []) (Nat.le_trans (show (s_tJL.getD 12 []).length ≤ 10 by decide) (by omega))
      · rw [g_getD_ge (L := s_tJL) (Nat.le_trans (show s_tJL.length ≤ 13 by decide) (by omega))]
        rfl
    rw [e] at h
    cases h
