/-! what one asks -/
/-- bits put one by one -/
theorem jor_T : (List.range 8).all (fun k => (List.range (2 ^ k)).all fun m => decide (jI (m : Int) ||| (jI 1 <<< (jI (k : Int) &&& 31)) = jI ((m + 2 ^ k : Nat) : Int))) = true := by decide +kernel
theorem jor {k m : Nat} (hk : k < 8) (hm : m < 2 ^ k) : jI (m : Int) ||| (jI 1 <<< (jI (k : Int) &&& 31)) = jI ((m + 2 ^ k : Nat) : Int) :=
  of_decide_eq_true (List.all_eq_true.mp (List.all_eq_true.mp jor_T k (List.mem_range.mpr hk)) m (List.mem_range.mpr hm))
/-- the set of the bars whose brake is broken -/
def brk (ψ : jSt) (r : Nat) : Nat → Nat
  | 0 => 0
  | k + 1 => if ψ (r + 2 + k) 10 = 0 then brk ψ r k else brk ψ r k + 2 ^ k
theorem brk_lt (ψ : jSt) (r : Nat) : ∀ k, brk ψ r k < 2 ^ k
  | 0 => Nat.zero_lt_one
  | k + 1 => by
    have ih := brk_lt ψ r k
    have e : 2 ^ (k + 1) = 2 ^ k + 2 ^ k := by rw [Nat.pow_succ, Nat.mul_two]
    show (if ψ (r + 2 + k) 10 = 0 then brk ψ r k else brk ψ r k + 2 ^ k) < 2 ^ (k + 1)
    rw [e]
    generalize 2 ^ k = w at ih ⊢
    split <;> omega
theorem brk_8 (ψ : jSt) (r : Nat) {k : Nat} (hk : k ≤ 8) : brk ψ r k < 256 := Nat.lt_of_lt_of_le (brk_lt ψ r k) (Nat.pow_le_pow_right (by decide) hk)
theorem brk_eq {ψ φ : jSt} {r : Nat} (h : ∀ a, φ a 10 = ψ a 10) : ∀ k, brk φ r k = brk ψ r k
  | 0 => rfl
  | k + 1 => by
    show (if _ then _ else _) = (if _ then _ else _)
    rw [brk_eq h k, h]
def hsum (ψ : jSt) (r : Nat) : Nat → Int
  | 0 => 0
  | k + 1 => hsum ψ r k + ψ (r + 2 + k) 3
theorem hsum_le {ψ : jSt} {r : Nat} : ∀ {k : Nat}, (∀ b, b < k → 0 ≤ ψ (r + 2 + b) 3 ∧ ψ (r + 2 + b) 3 ≤ 120) → 0 ≤ hsum ψ r k ∧ hsum ψ r k ≤ 120 * k
  | 0, _ => ⟨Int.le_refl _, Int.le_refl _⟩
  | k + 1, h => by
    have ih := hsum_le (fun b hb => h b (Nat.lt_succ_of_lt hb))
    have h1 := h k (Nat.lt_succ_self k)
    show 0 ≤ hsum ψ r k + _ ∧ hsum ψ r k + _ ≤ _
    omega
def obV (ψ : jSt) (a : Nat) : Nat → Int
  | 0 => ψ a 1
  | 1 => ψ a 2
  | 2 => ψ a 3
  | 3 => ψ a 4
  | 4 => ψ a 5
  | 5 => ψ a 6
  | 6 => ψ a 7
  | 7 => bdf ψ a
  | 8 => ψ a 8
  | 9 => ψ a 9
  | 10 => ψ a 10
  | _ => ψ a 11
def mnV (ψ : jSt) (n : Nat) : Nat → Int
  | 0 => ψ 2 86
  | 1 => ψ 2 81
  | 2 => ψ 1 103
  | 3 => ψ 2 83
  | 4 => ψ 2 84
  | 5 => ψ 2 87
  | 6 => ψ 2 88
  | 7 => ψ 2 89
  | 8 => opn ψ 2
  | 9 => ψ 2 91
  | 10 => ψ 2 92
  | 11 => ψ 2 93
  | 12 => ψ 2 94
  | 13 => ψ 2 95
  | 14 => ψ 2 96
  | _ => (brk ψ 2 n : Int)
section P36
variable {xs : Nat → Int32} {L0 : Nat}
theorem m_14 {ψ : jSt} {r : Nat} (hr : jR2 r) (n : Nat) (hn : ψ r 81 = (n : Int)) (hn8 : n ≤ 8) (hG : jG ψ) : JZ Eq xs L0 14 0 ([some (.ref r)] ++ List.replicate 2 none) [] ψ (oI fun x ψ' => x = (brk ψ r n : Int) ∧ ψ' = ψ) := by
  have hrig := jR_rig hr
  have hr' : r = 2 ∨ r = 61 := hr
  have hrl : r < 131 := by omega
  refine JZ_iconst i_14_0 ?_
  refine JZ_istore_n i_14_1 (by rw [l_14]; decide) (by rfl) ?_
  refine JZ_iconst i_14_2 ?_
  refine JZ_istore_n i_14_3 (by rw [l_14]; decide) (by rfl) ?_
  refine JZ_fg (L' := [some (.ref r), some (.int (jI (((0 : Nat) : Int)))), some (.int (jI (((0 : Nat) : Int))))]) ?_ (by repeat (first | exact trivial | refine ⟨rfl, ?_⟩))
  refine JZ_forP (σ := Unit) (N := n) (I := fun i _ => True) (Lf := fun i _ => [some (.ref r), some (.int (jI ((brk ψ r i : Int)))), some (.int (jI ((i : Int))))]) ?_ ?_ n 0 () (by omega) ?_
  · intro i u hi hI hK
    have hbar := jR_bar hr (show i < 8 by omega)
    refine JZ_iload_n i_14_4 (by rfl) ?_
    refine JZ_aload_n i_14_5 (by rfl) ?_
    refine JZ_gB (key := 81) i_14_6 f_14_37 (by assumption) (by rfl) rfl hG (fun u6 v6 => ?_)
    refine JZ_icge (tg := 36) i_14_9 (by decide) (by omega) (by omega) (fun h9 => ?_) (fun h9 => ?_)
    · exfalso; omega
    refine JZ_aload_n i_14_12 (by rfl) ?_
    refine JZ_gR i_14_13 f_14_23 (by assumption) (by rfl) ?_
    refine JZ_iload_n i_14_16 (by rfl) ?_
    refine JZ_aBar (i) i_14_17 hr (by omega) (by omega) ?_
    refine JZ_gB (key := 10) i_14_18 f_14_93 (by assumption) (by rfl) rfl hG (fun u18 v18 => ?_)
    refine JZ_ifeq (tg := 30) i_14_21 (by decide) (by omega) (fun h21 => ?_) (fun h21 => ?_)
    · refine JZ_iinc i_14_30 (by rfl) (by rw [l_14]; decide) (by rfl) ?_
      refine JZ_goto (tg := 4) i_14_33 (by decide) ?_
      first
        | exact JZ_fg (hK () trivial) (by refine ⟨rfl, ?_, rfl, trivial⟩; show some (Value.int (jI (brk ψ r i : Int))) = some (Value.int (jI ((if ψ (r + 2 + i) 10 = 0 then brk ψ r i else brk ψ r i + 2 ^ i : Nat) : Int))); rw [if_pos h21])
        | exact JZ_fg (hK () trivial) (by refine ⟨rfl, ?_, rfl, trivial⟩; show some (Value.int (jI (brk ψ r i : Int) ||| (jI 1 <<< (jI (i : Int) &&& 31)))) = some (Value.int (jI ((if ψ (r + 2 + i) 10 = 0 then brk ψ r i else brk ψ r i + 2 ^ i : Nat) : Int))); rw [if_neg h21, jor (by omega) (brk_lt ψ r i)])
    refine JZ_iload_n i_14_24 (by rfl) ?_
    refine JZ_iconst i_14_25 ?_
    refine JZ_iload_n i_14_26 (by rfl) ?_
    refine JZ_ishl i_14_27 ?_
    refine JZ_ior i_14_28 ?_
    refine JZ_istore_n i_14_29 (by rw [l_14]; decide) (by rfl) ?_
    refine JZ_iinc i_14_30 (by rfl) (by rw [l_14]; decide) (by rfl) ?_
    refine JZ_goto (tg := 4) i_14_33 (by decide) ?_
    first
      | exact JZ_fg (hK () trivial) (by refine ⟨rfl, ?_, rfl, trivial⟩; show some (Value.int (jI (brk ψ r i : Int))) = some (Value.int (jI ((if ψ (r + 2 + i) 10 = 0 then brk ψ r i else brk ψ r i + 2 ^ i : Nat) : Int))); rw [if_pos h21])
      | exact JZ_fg (hK () trivial) (by refine ⟨rfl, ?_, rfl, trivial⟩; show some (Value.int (jI (brk ψ r i : Int) ||| (jI 1 <<< (jI (i : Int) &&& 31)))) = some (Value.int (jI ((if ψ (r + 2 + i) 10 = 0 then brk ψ r i else brk ψ r i + 2 ^ i : Nat) : Int))); rw [if_neg h21, jor (by omega) (brk_lt ψ r i)])
  · intro u hI
    refine JZ_iload_n i_14_4 (by rfl) ?_
    refine JZ_aload_n i_14_5 (by rfl) ?_
    refine JZ_gB (key := 81) i_14_6 f_14_37 (by assumption) (by rfl) rfl hG (fun u6 v6 => ?_)
    refine JZ_icge (tg := 36) i_14_9 (by decide) (by omega) (by omega) (fun h9 => ?_) (fun h9 => ?_)
    · refine JZ_iload_n i_14_36 (by rfl) ?_
      refine JZ_iret i_14_37 r_14 ?_
      exact ⟨rfl, rfl⟩
    exfalso; omega
  · trivial
theorem m_15 {ψ : jSt} (n : Nat) (hn : ψ 2 81 = (n : Int)) (hn8 : n ≤ 8) (hS : jS ψ 2) (hY : jY ψ 2) (hG : jG ψ) (k : Nat) (hk : k < 16) : JZ Eq xs L0 15 0 ([some (.ref 1), some (.int (jI (k : Int)))] ++ List.replicate 0 none) [] ψ (oI fun x ψ' => x = mnV ψ n k ∧ ψ' = ψ) := by
  have hT := jTow1
  have hrB := jR_rig (r := 2) (by decide)
  have h88 := hY.2.2.1
  refine JZ_iload_n i_15_0 (by rfl) ?_
  have hcs : k = 0 ∨ k = 1 ∨ k = 2 ∨ k = 3 ∨ k = 4 ∨ k = 5 ∨ k = 6 ∨ k = 7 ∨ k = 8 ∨ k = 9 ∨ k = 10 ∨ k = 11 ∨ k = 12 ∨ k = 13 ∨ k = 14 ∨ k = 15 := by omega
  rcases hcs with rfl | rfl | rfl | rfl | rfl | rfl | rfl | rfl | rfl | rfl | rfl | rfl | rfl | rfl | rfl | rfl
  · refine JZ_tsw (tg := 80) i_15_1 (by omega) (by decide) ?_
    refine JZ_aload_n i_15_80 (by rfl) ?_
    refine JZ_gR i_15_81 f_15_10 jTow1 (by rfl) ?_
    refine JZ_gB (key := 86) i_15_84 f_15_212 (by assumption) (by rfl) rfl hG (fun u84 v84 => ?_)
    refine JZ_iret i_15_87 r_15 ?_
    first | exact ⟨rfl, rfl⟩ | exact ⟨by show _ = ψ 2 88; omega, rfl⟩ | exact ⟨hq153, rfl⟩ | exact ⟨hq209, rfl⟩
  · refine JZ_tsw (tg := 88) i_15_1 (by omega) (by decide) ?_
    refine JZ_aload_n i_15_88 (by rfl) ?_
    refine JZ_gR i_15_89 f_15_10 jTow1 (by rfl) ?_
    refine JZ_gB (key := 81) i_15_92 f_15_37 (by assumption) (by rfl) rfl hG (fun u92 v92 => ?_)
    refine JZ_iret i_15_95 r_15 ?_
    first | exact ⟨rfl, rfl⟩ | exact ⟨by show _ = ψ 2 88; omega, rfl⟩ | exact ⟨hq153, rfl⟩ | exact ⟨hq209, rfl⟩
  · refine JZ_tsw (tg := 96) i_15_1 (by omega) (by decide) ?_
    refine JZ_aload_n i_15_96 (by rfl) ?_
    refine JZ_gB (key := 103) i_15_97 f_15_68 (by assumption) (by rfl) rfl hG (fun u97 v97 => ?_)
    refine JZ_iret i_15_100 r_15 ?_
    first | exact ⟨rfl, rfl⟩ | exact ⟨by show _ = ψ 2 88; omega, rfl⟩ | exact ⟨hq153, rfl⟩ | exact ⟨hq209, rfl⟩
  · refine JZ_tsw (tg := 101) i_15_1 (by omega) (by decide) ?_
    refine JZ_aload_n i_15_101 (by rfl) ?_
    refine JZ_gR i_15_102 f_15_10 jTow1 (by rfl) ?_
    refine JZ_gB (key := 83) i_15_105 f_15_84 (by assumption) (by rfl) rfl hG (fun u105 v105 => ?_)
    refine JZ_iret i_15_108 r_15 ?_
    first | exact ⟨rfl, rfl⟩ | exact ⟨by show _ = ψ 2 88; omega, rfl⟩ | exact ⟨hq153, rfl⟩ | exact ⟨hq209, rfl⟩
  · refine JZ_tsw (tg := 109) i_15_1 (by omega) (by decide) ?_
    refine JZ_aload_n i_15_109 (by rfl) ?_
    refine JZ_gR i_15_110 f_15_10 jTow1 (by rfl) ?_
    refine JZ_gB (key := 84) i_15_113 f_15_148 (by assumption) (by rfl) rfl hG (fun u113 v113 => ?_)
    refine JZ_iret i_15_116 r_15 ?_
    first | exact ⟨rfl, rfl⟩ | exact ⟨by show _ = ψ 2 88; omega, rfl⟩ | exact ⟨hq153, rfl⟩ | exact ⟨hq209, rfl⟩
  · refine JZ_tsw (tg := 117) i_15_1 (by omega) (by decide) ?_
    refine JZ_aload_n i_15_117 (by rfl) ?_
    refine JZ_gR i_15_118 f_15_10 jTow1 (by rfl) ?_
    refine JZ_gB (key := 87) i_15_121 f_15_112 (by assumption) (by rfl) rfl hG (fun u121 v121 => ?_)
    refine JZ_iret i_15_124 r_15 ?_
    first | exact ⟨rfl, rfl⟩ | exact ⟨by show _ = ψ 2 88; omega, rfl⟩ | exact ⟨hq153, rfl⟩ | exact ⟨hq209, rfl⟩
  · refine JZ_tsw (tg := 125) i_15_1 (by omega) (by decide) ?_
    refine JZ_aload_n i_15_125 (by rfl) ?_
    refine JZ_gR i_15_126 f_15_10 jTow1 (by rfl) ?_
    refine JZ_gB (key := 88) i_15_129 f_15_198 (by assumption) (by rfl) rfl hG (fun u129 v129 => ?_)
    refine JZ_ifeq (tg := 139) i_15_132 (by decide) (by omega) (fun h132 => ?_) (fun h132 => ?_)
    · refine JZ_iconst i_15_139 ?_
      refine JZ_iret i_15_140 r_15 ?_
      first | exact ⟨rfl, rfl⟩ | exact ⟨by show _ = ψ 2 88; omega, rfl⟩ | exact ⟨hq153, rfl⟩ | exact ⟨hq209, rfl⟩
    refine JZ_iconst i_15_135 ?_
    refine JZ_goto (tg := 140) i_15_136 (by decide) ?_
    refine JZ_iret i_15_140 r_15 ?_
    first | exact ⟨rfl, rfl⟩ | exact ⟨by show _ = ψ 2 88; omega, rfl⟩ | exact ⟨hq153, rfl⟩ | exact ⟨hq209, rfl⟩
  · refine JZ_tsw (tg := 141) i_15_1 (by omega) (by decide) ?_
    refine JZ_aload_n i_15_141 (by rfl) ?_
    refine JZ_gR i_15_142 f_15_10 jTow1 (by rfl) ?_
    refine JZ_gB (key := 89) i_15_145 f_15_255 (by assumption) (by rfl) rfl hG (fun u145 v145 => ?_)
    refine JZ_iret i_15_148 r_15 ?_
    first | exact ⟨rfl, rfl⟩ | exact ⟨by show _ = ψ 2 88; omega, rfl⟩ | exact ⟨hq153, rfl⟩ | exact ⟨hq209, rfl⟩
  · refine JZ_tsw (tg := 149) i_15_1 (by omega) (by decide) ?_
    refine JZ_aload_n i_15_149 (by rfl) ?_
    refine JZ_gR i_15_150 f_15_10 jTow1 (by rfl) ?_
    refine JZ_v0P (j := 0) i_15_153 v_15_201 (by decide +kernel) rfl rfl (Nat.le_of_ble_eq_true rfl) (by assumption) rfl rfl (m_13 (r := 2) (by decide) hY.2.1 hS.2.1.2 (fun c hc => (hS.2.2.2.2.1 c hc).1) hG) (fun x153 hq153 => ?_)
    refine JZ_iret i_15_156 r_15 ?_
    first | exact ⟨rfl, rfl⟩ | exact ⟨by show _ = ψ 2 88; omega, rfl⟩ | exact ⟨hq153, rfl⟩ | exact ⟨hq209, rfl⟩
  · refine JZ_tsw (tg := 157) i_15_1 (by omega) (by decide) ?_
    refine JZ_aload_n i_15_157 (by rfl) ?_
    refine JZ_gR i_15_158 f_15_10 jTow1 (by rfl) ?_
    refine JZ_gB (key := 91) i_15_161 f_15_258 (by assumption) (by rfl) rfl hG (fun u161 v161 => ?_)
    refine JZ_iret i_15_164 r_15 ?_
    first | exact ⟨rfl, rfl⟩ | exact ⟨by show _ = ψ 2 88; omega, rfl⟩ | exact ⟨hq153, rfl⟩ | exact ⟨hq209, rfl⟩
  · refine JZ_tsw (tg := 165) i_15_1 (by omega) (by decide) ?_
    refine JZ_aload_n i_15_165 (by rfl) ?_
    refine JZ_gR i_15_166 f_15_10 jTow1 (by rfl) ?_
    refine JZ_gB (key := 92) i_15_169 f_15_261 (by assumption) (by rfl) rfl hG (fun u169 v169 => ?_)
    refine JZ_iret i_15_172 r_15 ?_
    first | exact ⟨rfl, rfl⟩ | exact ⟨by show _ = ψ 2 88; omega, rfl⟩ | exact ⟨hq153, rfl⟩ | exact ⟨hq209, rfl⟩
  · refine JZ_tsw (tg := 173) i_15_1 (by omega) (by decide) ?_
    refine JZ_aload_n i_15_173 (by rfl) ?_
    refine JZ_gR i_15_174 f_15_10 jTow1 (by rfl) ?_
    refine JZ_gB (key := 93) i_15_177 f_15_264 (by assumption) (by rfl) rfl hG (fun u177 v177 => ?_)
    refine JZ_iret i_15_180 r_15 ?_
    first | exact ⟨rfl, rfl⟩ | exact ⟨by show _ = ψ 2 88; omega, rfl⟩ | exact ⟨hq153, rfl⟩ | exact ⟨hq209, rfl⟩
  · refine JZ_tsw (tg := 181) i_15_1 (by omega) (by decide) ?_
    refine JZ_aload_n i_15_181 (by rfl) ?_
    refine JZ_gR i_15_182 f_15_10 jTow1 (by rfl) ?_
    refine JZ_gB (key := 94) i_15_185 f_15_267 (by assumption) (by rfl) rfl hG (fun u185 v185 => ?_)
    refine JZ_iret i_15_188 r_15 ?_
    first | exact ⟨rfl, rfl⟩ | exact ⟨by show _ = ψ 2 88; omega, rfl⟩ | exact ⟨hq153, rfl⟩ | exact ⟨hq209, rfl⟩
  · refine JZ_tsw (tg := 189) i_15_1 (by omega) (by decide) ?_
    refine JZ_aload_n i_15_189 (by rfl) ?_
    refine JZ_gR i_15_190 f_15_10 jTow1 (by rfl) ?_
    refine JZ_gB (key := 95) i_15_193 f_15_270 (by assumption) (by rfl) rfl hG (fun u193 v193 => ?_)
    refine JZ_iret i_15_196 r_15 ?_
    first | exact ⟨rfl, rfl⟩ | exact ⟨by show _ = ψ 2 88; omega, rfl⟩ | exact ⟨hq153, rfl⟩ | exact ⟨hq209, rfl⟩
  · refine JZ_tsw (tg := 197) i_15_1 (by omega) (by decide) ?_
    refine JZ_aload_n i_15_197 (by rfl) ?_
    refine JZ_gR i_15_198 f_15_10 jTow1 (by rfl) ?_
    refine JZ_gB (key := 96) i_15_201 f_15_273 (by assumption) (by rfl) rfl hG (fun u201 v201 => ?_)
    refine JZ_iret i_15_204 r_15 ?_
    first | exact ⟨rfl, rfl⟩ | exact ⟨by show _ = ψ 2 88; omega, rfl⟩ | exact ⟨hq153, rfl⟩ | exact ⟨hq209, rfl⟩
  · refine JZ_tsw (tg := 205) i_15_1 (by omega) (by decide) ?_
    refine JZ_aload_n i_15_205 (by rfl) ?_
    refine JZ_gR i_15_206 f_15_10 jTow1 (by rfl) ?_
    refine JZ_v0P (j := 2) i_15_209 v_15_274 (by decide +kernel) rfl rfl (Nat.le_of_ble_eq_true rfl) (by assumption) rfl rfl (m_14 (r := 2) (by decide) n hn hn8 hG) (fun x209 hq209 => ?_)
    refine JZ_iret i_15_212 r_15 ?_
    first | exact ⟨rfl, rfl⟩ | exact ⟨by show _ = ψ 2 88; omega, rfl⟩ | exact ⟨hq153, rfl⟩ | exact ⟨hq209, rfl⟩
theorem m_18 {ψ : jSt} (n : Nat) (hn : ψ 2 81 = (n : Int)) (hn8 : n ≤ 8) (hS : jS ψ 2) (hG : jG ψ) (b k : Nat) (hb : b < n) (hk : k < 12) : JZ Eq xs L0 18 0 ([some (.ref 1), some (.int (jI (b : Int))), some (.int (jI (k : Int)))] ++ List.replicate 1 none) [] ψ (oI fun x ψ' => x = obV ψ (2 + 2 + b) k ∧ ψ' = ψ) := by
  have hT := jTow1
  have hrB := jR_rig (r := 2) (by decide)
  have hbar := jR_bar (r := 2) (by decide) (show b < 8 by omega)
  have hbl := jSk_lt hbar
  obtain ⟨_, b1, _, _, _, _, _, b8, b9, b10⟩ := hS.2.2.2.1 b (by omega)
  refine JZ_aload_n i_18_0 (by rfl) ?_
  refine JZ_gR i_18_1 f_18_10 jTow1 (by rfl) ?_
  refine JZ_iload_n i_18_4 (by rfl) ?_
  refine JZ_v1A (j := 0) i_18_5 v_18_102 (by decide +kernel) rfl rfl (Nat.le_of_ble_eq_true rfl) (by assumption) rfl rfl (m_16 (r := 2) (by decide) b rfl (by omega) (by omega) hG) ?_
  refine JZ_astore_n i_18_8 (by rw [l_18]; decide) (by rfl) (by omega) ?_
  refine JZ_iload_n i_18_9 (by rfl) ?_
  have hcs : k = 0 ∨ k = 1 ∨ k = 2 ∨ k = 3 ∨ k = 4 ∨ k = 5 ∨ k = 6 ∨ k = 7 ∨ k = 8 ∨ k = 9 ∨ k = 10 ∨ k = 11 := by omega
  rcases hcs with rfl | rfl | rfl | rfl | rfl | rfl | rfl | rfl | rfl | rfl | rfl | rfl
  · refine JZ_tsw (tg := 72) i_18_10 (by omega) (by decide) ?_
    refine JZ_aload_n i_18_72 (by rfl) ?_
    refine JZ_gB (key := 1) i_18_73 f_18_50 (by assumption) (by rfl) rfl hG (fun u73 v73 => ?_)
    refine JZ_ifeq (tg := 83) i_18_76 (by decide) (by omega) (fun h76 => ?_) (fun h76 => ?_)
    · refine JZ_iconst i_18_83 ?_
      refine JZ_iret i_18_84 r_18 ?_
      first | exact ⟨rfl, rfl⟩ | exact ⟨hq116, rfl⟩ | exact ⟨by show _ = ψ (2 + 2 + b) 1; omega, rfl⟩ | exact ⟨by show _ = ψ (2 + 2 + b) 8; omega, rfl⟩ | exact ⟨by show _ = ψ (2 + 2 + b) 9; omega, rfl⟩ | exact ⟨by show _ = ψ (2 + 2 + b) 10; omega, rfl⟩
    refine JZ_iconst i_18_79 ?_
    refine JZ_goto (tg := 84) i_18_80 (by decide) ?_
    refine JZ_iret i_18_84 r_18 ?_
    first | exact ⟨rfl, rfl⟩ | exact ⟨hq116, rfl⟩ | exact ⟨by show _ = ψ (2 + 2 + b) 1; omega, rfl⟩ | exact ⟨by show _ = ψ (2 + 2 + b) 8; omega, rfl⟩ | exact ⟨by show _ = ψ (2 + 2 + b) 9; omega, rfl⟩ | exact ⟨by show _ = ψ (2 + 2 + b) 10; omega, rfl⟩
  · refine JZ_tsw (tg := 85) i_18_10 (by omega) (by decide) ?_
    refine JZ_aload_n i_18_85 (by rfl) ?_
    refine JZ_gB (key := 2) i_18_86 f_18_56 (by assumption) (by rfl) rfl hG (fun u86 v86 => ?_)
    refine JZ_iret i_18_89 r_18 ?_
    first | exact ⟨rfl, rfl⟩ | exact ⟨hq116, rfl⟩ | exact ⟨by show _ = ψ (2 + 2 + b) 1; omega, rfl⟩ | exact ⟨by show _ = ψ (2 + 2 + b) 8; omega, rfl⟩ | exact ⟨by show _ = ψ (2 + 2 + b) 9; omega, rfl⟩ | exact ⟨by show _ = ψ (2 + 2 + b) 10; omega, rfl⟩
  · refine JZ_tsw (tg := 90) i_18_10 (by omega) (by decide) ?_
    refine JZ_aload_n i_18_90 (by rfl) ?_
    refine JZ_gB (key := 3) i_18_91 f_18_223 (by assumption) (by rfl) rfl hG (fun u91 v91 => ?_)
    refine JZ_iret i_18_94 r_18 ?_
    first | exact ⟨rfl, rfl⟩ | exact ⟨hq116, rfl⟩ | exact ⟨by show _ = ψ (2 + 2 + b) 1; omega, rfl⟩ | exact ⟨by show _ = ψ (2 + 2 + b) 8; omega, rfl⟩ | exact ⟨by show _ = ψ (2 + 2 + b) 9; omega, rfl⟩ | exact ⟨by show _ = ψ (2 + 2 + b) 10; omega, rfl⟩
  · refine JZ_tsw (tg := 95) i_18_10 (by omega) (by decide) ?_
    refine JZ_aload_n i_18_95 (by rfl) ?_
    refine JZ_gB (key := 4) i_18_96 f_18_182 (by assumption) (by rfl) rfl hG (fun u96 v96 => ?_)
    refine JZ_iret i_18_99 r_18 ?_
    first | exact ⟨rfl, rfl⟩ | exact ⟨hq116, rfl⟩ | exact ⟨by show _ = ψ (2 + 2 + b) 1; omega, rfl⟩ | exact ⟨by show _ = ψ (2 + 2 + b) 8; omega, rfl⟩ | exact ⟨by show _ = ψ (2 + 2 + b) 9; omega, rfl⟩ | exact ⟨by show _ = ψ (2 + 2 + b) 10; omega, rfl⟩
  · refine JZ_tsw (tg := 100) i_18_10 (by omega) (by decide) ?_
    refine JZ_aload_n i_18_100 (by rfl) ?_
    refine JZ_gB (key := 5) i_18_101 f_18_168 (by assumption) (by rfl) rfl hG (fun u101 v101 => ?_)
    refine JZ_iret i_18_104 r_18 ?_
    first | exact ⟨rfl, rfl⟩ | exact ⟨hq116, rfl⟩ | exact ⟨by show _ = ψ (2 + 2 + b) 1; omega, rfl⟩ | exact ⟨by show _ = ψ (2 + 2 + b) 8; omega, rfl⟩ | exact ⟨by show _ = ψ (2 + 2 + b) 9; omega, rfl⟩ | exact ⟨by show _ = ψ (2 + 2 + b) 10; omega, rfl⟩
  · refine JZ_tsw (tg := 105) i_18_10 (by omega) (by decide) ?_
    refine JZ_aload_n i_18_105 (by rfl) ?_
    refine JZ_gB (key := 6) i_18_106 f_18_226 (by assumption) (by rfl) rfl hG (fun u106 v106 => ?_)
    refine JZ_iret i_18_109 r_18 ?_
    first | exact ⟨rfl, rfl⟩ | exact ⟨hq116, rfl⟩ | exact ⟨by show _ = ψ (2 + 2 + b) 1; omega, rfl⟩ | exact ⟨by show _ = ψ (2 + 2 + b) 8; omega, rfl⟩ | exact ⟨by show _ = ψ (2 + 2 + b) 9; omega, rfl⟩ | exact ⟨by show _ = ψ (2 + 2 + b) 10; omega, rfl⟩
  · refine JZ_tsw (tg := 110) i_18_10 (by omega) (by decide) ?_
    refine JZ_aload_n i_18_110 (by rfl) ?_
    refine JZ_gB (key := 7) i_18_111 f_18_229 (by assumption) (by rfl) rfl hG (fun u111 v111 => ?_)
    refine JZ_iret i_18_114 r_18 ?_
    first | exact ⟨rfl, rfl⟩ | exact ⟨hq116, rfl⟩ | exact ⟨by show _ = ψ (2 + 2 + b) 1; omega, rfl⟩ | exact ⟨by show _ = ψ (2 + 2 + b) 8; omega, rfl⟩ | exact ⟨by show _ = ψ (2 + 2 + b) 9; omega, rfl⟩ | exact ⟨by show _ = ψ (2 + 2 + b) 10; omega, rfl⟩
  · refine JZ_tsw (tg := 115) i_18_10 (by omega) (by decide) ?_
    refine JZ_aload_n i_18_115 (by rfl) ?_
    refine JZ_v0P (j := 0) i_18_116 v_18_185 (by decide +kernel) rfl rfl (Nat.le_of_ble_eq_true rfl) (by assumption) rfl rfl (m_17 hbar hG) (fun x116 hq116 => ?_)
    refine JZ_iret i_18_119 r_18 ?_
    first | exact ⟨rfl, rfl⟩ | exact ⟨hq116, rfl⟩ | exact ⟨by show _ = ψ (2 + 2 + b) 1; omega, rfl⟩ | exact ⟨by show _ = ψ (2 + 2 + b) 8; omega, rfl⟩ | exact ⟨by show _ = ψ (2 + 2 + b) 9; omega, rfl⟩ | exact ⟨by show _ = ψ (2 + 2 + b) 10; omega, rfl⟩
  · refine JZ_tsw (tg := 120) i_18_10 (by omega) (by decide) ?_
    refine JZ_aload_n i_18_120 (by rfl) ?_
    refine JZ_gB (key := 8) i_18_121 f_18_151 (by assumption) (by rfl) rfl hG (fun u121 v121 => ?_)
    refine JZ_ifeq (tg := 131) i_18_124 (by decide) (by omega) (fun h124 => ?_) (fun h124 => ?_)
    · refine JZ_iconst i_18_131 ?_
      refine JZ_iret i_18_132 r_18 ?_
      first | exact ⟨rfl, rfl⟩ | exact ⟨hq116, rfl⟩ | exact ⟨by show _ = ψ (2 + 2 + b) 1; omega, rfl⟩ | exact ⟨by show _ = ψ (2 + 2 + b) 8; omega, rfl⟩ | exact ⟨by show _ = ψ (2 + 2 + b) 9; omega, rfl⟩ | exact ⟨by show _ = ψ (2 + 2 + b) 10; omega, rfl⟩
    refine JZ_iconst i_18_127 ?_
    refine JZ_goto (tg := 132) i_18_128 (by decide) ?_
    refine JZ_iret i_18_132 r_18 ?_
    first | exact ⟨rfl, rfl⟩ | exact ⟨hq116, rfl⟩ | exact ⟨by show _ = ψ (2 + 2 + b) 1; omega, rfl⟩ | exact ⟨by show _ = ψ (2 + 2 + b) 8; omega, rfl⟩ | exact ⟨by show _ = ψ (2 + 2 + b) 9; omega, rfl⟩ | exact ⟨by show _ = ψ (2 + 2 + b) 10; omega, rfl⟩
  · refine JZ_tsw (tg := 133) i_18_10 (by omega) (by decide) ?_
    refine JZ_aload_n i_18_133 (by rfl) ?_
    refine JZ_gB (key := 9) i_18_134 f_18_154 (by assumption) (by rfl) rfl hG (fun u134 v134 => ?_)
    refine JZ_ifeq (tg := 144) i_18_137 (by decide) (by omega) (fun h137 => ?_) (fun h137 => ?_)
    · refine JZ_iconst i_18_144 ?_
      refine JZ_iret i_18_145 r_18 ?_
      first | exact ⟨rfl, rfl⟩ | exact ⟨hq116, rfl⟩ | exact ⟨by show _ = ψ (2 + 2 + b) 1; omega, rfl⟩ | exact ⟨by show _ = ψ (2 + 2 + b) 8; omega, rfl⟩ | exact ⟨by show _ = ψ (2 + 2 + b) 9; omega, rfl⟩ | exact ⟨by show _ = ψ (2 + 2 + b) 10; omega, rfl⟩
    refine JZ_iconst i_18_140 ?_
    refine JZ_goto (tg := 145) i_18_141 (by decide) ?_
    refine JZ_iret i_18_145 r_18 ?_
    first | exact ⟨rfl, rfl⟩ | exact ⟨hq116, rfl⟩ | exact ⟨by show _ = ψ (2 + 2 + b) 1; omega, rfl⟩ | exact ⟨by show _ = ψ (2 + 2 + b) 8; omega, rfl⟩ | exact ⟨by show _ = ψ (2 + 2 + b) 9; omega, rfl⟩ | exact ⟨by show _ = ψ (2 + 2 + b) 10; omega, rfl⟩
  · refine JZ_tsw (tg := 146) i_18_10 (by omega) (by decide) ?_
    refine JZ_aload_n i_18_146 (by rfl) ?_
    refine JZ_gB (key := 10) i_18_147 f_18_207 (by assumption) (by rfl) rfl hG (fun u147 v147 => ?_)
    refine JZ_ifeq (tg := 157) i_18_150 (by decide) (by omega) (fun h150 => ?_) (fun h150 => ?_)
    · refine JZ_iconst i_18_157 ?_
      refine JZ_iret i_18_158 r_18 ?_
      first | exact ⟨rfl, rfl⟩ | exact ⟨hq116, rfl⟩ | exact ⟨by show _ = ψ (2 + 2 + b) 1; omega, rfl⟩ | exact ⟨by show _ = ψ (2 + 2 + b) 8; omega, rfl⟩ | exact ⟨by show _ = ψ (2 + 2 + b) 9; omega, rfl⟩ | exact ⟨by show _ = ψ (2 + 2 + b) 10; omega, rfl⟩
    refine JZ_iconst i_18_153 ?_
    refine JZ_goto (tg := 158) i_18_154 (by decide) ?_
    refine JZ_iret i_18_158 r_18 ?_
    first | exact ⟨rfl, rfl⟩ | exact ⟨hq116, rfl⟩ | exact ⟨by show _ = ψ (2 + 2 + b) 1; omega, rfl⟩ | exact ⟨by show _ = ψ (2 + 2 + b) 8; omega, rfl⟩ | exact ⟨by show _ = ψ (2 + 2 + b) 9; omega, rfl⟩ | exact ⟨by show _ = ψ (2 + 2 + b) 10; omega, rfl⟩
  · refine JZ_tsw (tg := 159) i_18_10 (by omega) (by decide) ?_
    refine JZ_aload_n i_18_159 (by rfl) ?_
    refine JZ_gB (key := 11) i_18_160 f_18_232 (by assumption) (by rfl) rfl hG (fun u160 v160 => ?_)
    refine JZ_iret i_18_163 r_18 ?_
    first | exact ⟨rfl, rfl⟩ | exact ⟨hq116, rfl⟩ | exact ⟨by show _ = ψ (2 + 2 + b) 1; omega, rfl⟩ | exact ⟨by show _ = ψ (2 + 2 + b) 8; omega, rfl⟩ | exact ⟨by show _ = ψ (2 + 2 + b) 9; omega, rfl⟩ | exact ⟨by show _ = ψ (2 + 2 + b) 10; omega, rfl⟩
theorem m_20 {ψ : jSt} (hpc : ψ 1 103 ≤ 10) (hG : jG ψ) (p k : Nat) (hp : (p : Int) < ψ 1 103) (hk : k < 4) : JZ Eq xs L0 20 0 ([some (.ref 1), some (.int (jI (p : Int))), some (.int (jI (k : Int)))] ++ List.replicate 1 none) [] ψ (oI fun x ψ' => x = ψ (121 + p) (60 + k) ∧ ψ' = ψ) := by
  have hT := jTow1
  have hrB := jR_rig (r := 2) (by decide)
  have hpi := jR_piece (show p < 10 by omega)
  have hpl := jSk_lt hpi
  refine JZ_aload_n i_20_0 (by rfl) ?_
  refine JZ_iload_n i_20_1 (by rfl) ?_
  refine JZ_v1A (j := 0) i_20_2 v_20_157 (by decide +kernel) rfl rfl (Nat.le_of_ble_eq_true rfl) (by assumption) rfl rfl (m_19 p rfl (by omega) (by omega) hG) ?_
  refine JZ_astore_n i_20_5 (by rw [l_20]; decide) (by rfl) (by omega) ?_
  refine JZ_iload_n i_20_6 (by rfl) ?_
  have hcs : k = 0 ∨ k = 1 ∨ k = 2 ∨ k = 3 := by omega
  rcases hcs with rfl | rfl | rfl | rfl
  · refine JZ_tsw (tg := 36) i_20_7 (by omega) (by decide) ?_
    refine JZ_aload_n i_20_36 (by rfl) ?_
    refine JZ_gB (key := 60) i_20_37 f_20_73 (by assumption) (by rfl) rfl hG (fun u37 v37 => ?_)
    refine JZ_iret i_20_40 r_20 ?_
    exact ⟨rfl, rfl⟩
  · refine JZ_tsw (tg := 41) i_20_7 (by omega) (by decide) ?_
    refine JZ_aload_n i_20_41 (by rfl) ?_
    refine JZ_gB (key := 61) i_20_42 f_20_76 (by assumption) (by rfl) rfl hG (fun u42 v42 => ?_)
    refine JZ_iret i_20_45 r_20 ?_
    exact ⟨rfl, rfl⟩
  · refine JZ_tsw (tg := 46) i_20_7 (by omega) (by decide) ?_
    refine JZ_aload_n i_20_46 (by rfl) ?_
    refine JZ_gB (key := 62) i_20_47 f_20_79 (by assumption) (by rfl) rfl hG (fun u47 v47 => ?_)
    refine JZ_iret i_20_50 r_20 ?_
    exact ⟨rfl, rfl⟩
  · refine JZ_tsw (tg := 51) i_20_7 (by omega) (by decide) ?_
    refine JZ_aload_n i_20_51 (by rfl) ?_
    refine JZ_gB (key := 63) i_20_52 f_20_161 (by assumption) (by rfl) rfl hG (fun u52 v52 => ?_)
    refine JZ_iret i_20_55 r_20 ?_
    exact ⟨rfl, rfl⟩
theorem m_27 {ψ : jSt} (h83 : ψ 2 83 ≤ 6) (c m k : Nat) (hc : (c : Int) < ψ 2 83) (h21 : ψ (2 + 11 + 8 * c) 21 ≤ 6) (hk : k < 6) (hG : jG ψ) (hm : (m : Int) < ψ (2 + 11 + 8 * c) 21) : JZ Eq xs L0 27 0 ([some (.ref 1), some (.int (jI (c : Int))), some (.int (jI (m : Int))), some (.int (jI (k : Int)))] ++ List.replicate 1 none) [] ψ (oI fun x ψ' => x = ψ (2 + 13 + 8 * c + m) (40 + k) ∧ ψ' = ψ) := by
  have hT := jTow1
  have hrB := jR_rig (r := 2) (by decide)
  have hcue := (jR_cue (r := 2) (by decide) (show c < 6 by omega)).1
  have hcl := jSk_lt hcue
  have hmv := jR_move (r := 2) (by decide) (show c < 6 by omega) (show m < 6 by omega)
  have hml := jSk_lt hmv
  refine JZ_aload_n i_27_0 (by rfl) ?_
  refine JZ_gR i_27_1 f_27_10 jTow1 (by rfl) ?_
  refine JZ_iload_n i_27_4 (by rfl) ?_
  refine JZ_v1A (j := 0) i_27_5 v_27_98 (by decide +kernel) rfl rfl (Nat.le_of_ble_eq_true rfl) (by assumption) rfl rfl (m_11 (r := 2) (by decide) c rfl hc h83 hG) ?_
  refine JZ_iload_n i_27_8 (by rfl) ?_
  refine JZ_v1A (j := 0) i_27_9 v_27_239 (by decide +kernel) rfl rfl (Nat.le_of_ble_eq_true rfl) (by assumption) rfl rfl (m_26 (r := 2) (by decide) m (by omega) rfl hm h21 hG) ?_
  refine JZ_astore i_27_12 (by rw [l_27]; decide) (by rfl) (by omega) ?_
  refine JZ_iload_n i_27_14 (by rfl) ?_
  have hcs : k = 0 ∨ k = 1 ∨ k = 2 ∨ k = 3 ∨ k = 4 ∨ k = 5 := by omega
  rcases hcs with rfl | rfl | rfl | rfl | rfl | rfl
  · refine JZ_tsw (tg := 52) i_27_15 (by omega) (by decide) ?_
    refine JZ_aload i_27_52 (by rfl) ?_
    refine JZ_gB (key := 40) i_27_54 f_27_132 (by assumption) (by rfl) rfl hG (fun u54 v54 => ?_)
    refine JZ_iret i_27_57 r_27 ?_
    exact ⟨rfl, rfl⟩
  · refine JZ_tsw (tg := 58) i_27_15 (by omega) (by decide) ?_
    refine JZ_aload i_27_58 (by rfl) ?_
    refine JZ_gB (key := 41) i_27_60 f_27_137 (by assumption) (by rfl) rfl hG (fun u60 v60 => ?_)
    refine JZ_iret i_27_63 r_27 ?_
    exact ⟨rfl, rfl⟩
  · refine JZ_tsw (tg := 64) i_27_15 (by omega) (by decide) ?_
    refine JZ_aload i_27_64 (by rfl) ?_
    refine JZ_gB (key := 42) i_27_66 f_27_140 (by assumption) (by rfl) rfl hG (fun u66 v66 => ?_)
    refine JZ_iret i_27_69 r_27 ?_
    exact ⟨rfl, rfl⟩
  · refine JZ_tsw (tg := 70) i_27_15 (by omega) (by decide) ?_
    refine JZ_aload i_27_70 (by rfl) ?_
    refine JZ_gB (key := 43) i_27_72 f_27_143 (by assumption) (by rfl) rfl hG (fun u72 v72 => ?_)
    refine JZ_iret i_27_75 r_27 ?_
    exact ⟨rfl, rfl⟩
  · refine JZ_tsw (tg := 76) i_27_15 (by omega) (by decide) ?_
    refine JZ_aload i_27_76 (by rfl) ?_
    refine JZ_gB (key := 44) i_27_78 f_27_243 (by assumption) (by rfl) rfl hG (fun u78 v78 => ?_)
    refine JZ_iret i_27_81 r_27 ?_
    exact ⟨rfl, rfl⟩
  · refine JZ_tsw (tg := 82) i_27_15 (by omega) (by decide) ?_
    refine JZ_aload i_27_82 (by rfl) ?_
    refine JZ_gB (key := 45) i_27_84 f_27_246 (by assumption) (by rfl) rfl hG (fun u84 v84 => ?_)
    refine JZ_iret i_27_87 r_27 ?_
    exact ⟨rfl, rfl⟩
theorem JZ_vX1 {xs : Nat → Int32} {L0 y pc n : Nat} {L : List (Option Value)} {ψ : jSt} {ix z na kd ci a j : Nat} {rs : Nat × Nat × Nat × Nat × Option String} {rest : List Value} {tm : List (Option Nat)} {E : String} {v1 : Value} (hI : gI y pc = some (.invokevirtual ix, n)) (hiv : gIv y ix = some (z, na, kd, ci, rs)) (hk : j_ivc y z na kd 1 = true) (hna : na = 1) (hcat : ([v1] : List Value).all (fun v => v.category == 1) = true) (hrest : (rest.map fun v => v.category).sum ≤ 8) (hcell : jSk.getD a none = some (.inl (ci, tm))) (hargs : ([v1] : List Value).all (g_ok 131) = true) (hr : rest.all (g_ok 131) = true) (hz : JZ Eq xs L0 z 0 ([some (.ref a), some v1] ++ List.replicate j none) [] ψ (oX E fun ψ' => ψ' = ψ)) (hH : gH y = []) : JZ Eq xs L0 y pc L (v1 :: .ref a :: rest) ψ (oX E fun ψ' => ψ' = ψ) :=
  JZ_inv (args := [v1]) hI (fun _ => rfl) rfl rfl (by decide) hiv hk hna.symm hcat hrest hcell hargs hr (j := j) hz (fun o ψ' hq => by
    obtain ⟨rfl, hq⟩ := hq
    exact Or.inr ⟨E, rfl, by rw [hH]; rfl, fun X Y h => rfl, rfl, hq⟩)
theorem m_27x {ψ : jSt} (h83 : ψ 2 83 ≤ 6) (c m k : Nat) (hc : (c : Int) < ψ 2 83) (h21 : ψ (2 + 11 + 8 * c) 21 ≤ 6) (hk : k < 6) (hG : jG ψ) (hm : ψ (2 + 11 + 8 * c) 21 ≤ (m : Int)) (hm9 : m ≤ 100) : JZ Eq xs L0 27 0 ([some (.ref 1), some (.int (jI (c : Int))), some (.int (jI (m : Int))), some (.int (jI (k : Int)))] ++ List.replicate 1 none) [] ψ (oX "java/lang/IndexOutOfBoundsException" fun ψ' => ψ' = ψ) := by
  have hT := jTow1
  have hrB := jR_rig (r := 2) (by decide)
  have hcue := (jR_cue (r := 2) (by decide) (show c < 6 by omega)).1
  have hcl := jSk_lt hcue
  refine JZ_aload_n i_27_0 (by rfl) ?_
  refine JZ_gR i_27_1 f_27_10 jTow1 (by rfl) ?_
  refine JZ_iload_n i_27_4 (by rfl) ?_
  refine JZ_v1A (j := 0) i_27_5 v_27_98 (by decide +kernel) rfl rfl (Nat.le_of_ble_eq_true rfl) (by assumption) rfl rfl (m_11 (r := 2) (by decide) c rfl hc h83 hG) ?_
  refine JZ_iload_n i_27_8 (by rfl) ?_
  exact JZ_vX1 i_27_9 v_27_239 (by decide +kernel) rfl rfl (Nat.le_of_ble_eq_true rfl) (by assumption) rfl rfl (m_26x (r := 2) (by decide) (by omega) ⟨by omega, by omega⟩ hm hG) rfl
theorem m_43 {ψ : jSt} (n : Nat) (hn : ψ 2 81 = (n : Int)) (hn8 : n ≤ 8) (hG : jG ψ) (b d : Nat) (hb : b < n) (hd : d < n) : JZ Eq xs L0 43 0 ([some (.ref 1), some (.int (jI (b : Int))), some (.int (jI (d : Int)))] ++ List.replicate 2 none) [] ψ (oI fun x ψ' => ((x = 0 ∨ x = 1) ∧ (x = 1 ↔ btc ψ (2 + 2 + b) (ψ (2 + 2 + b) 3) (2 + 2 + d))) ∧ ψ' = ψ) := by
  have hT := jTow1
  have hrB := jR_rig (r := 2) (by decide)
  have hbA := jR_bar (r := 2) (by decide) (show b < 8 by omega)
  have hbB := jR_bar (r := 2) (by decide) (show d < 8 by omega)
  have hlA := jSk_lt hbA
  have hlB := jSk_lt hbB
  refine JZ_aload_n i_43_0 (by rfl) ?_
  refine JZ_gR i_43_1 f_43_10 jTow1 (by rfl) ?_
  refine JZ_iload_n i_43_4 (by rfl) ?_
  refine JZ_v1A (j := 0) i_43_5 v_43_102 (by decide +kernel) rfl rfl (Nat.le_of_ble_eq_true rfl) (by assumption) rfl rfl (m_16 (r := 2) (by decide) b rfl (by omega) (by omega) hG) ?_
  refine JZ_astore_n i_43_8 (by rw [l_43]; decide) (by rfl) (by omega) ?_
  refine JZ_aload_n i_43_9 (by rfl) ?_
  refine JZ_gR i_43_10 f_43_10 jTow1 (by rfl) ?_
  refine JZ_iload_n i_43_13 (by rfl) ?_
  refine JZ_v1A (j := 0) i_43_14 v_43_102 (by decide +kernel) rfl rfl (Nat.le_of_ble_eq_true rfl) (by assumption) rfl rfl (m_16 (r := 2) (by decide) d rfl (by omega) (by omega) hG) ?_
  refine JZ_astore i_43_17 (by rw [l_43]; decide) (by rfl) (by omega) ?_
  refine JZ_aload_n i_43_19 (by rfl) ?_
  refine JZ_aload_n i_43_20 (by rfl) ?_
  refine JZ_gB (key := 3) i_43_21 f_43_223 (by assumption) (by rfl) rfl hG (fun u21 v21 => ?_)
  refine JZ_aload i_43_24 (by rfl) ?_
  refine JZ_v2P (j := 1) i_43_26 v_43_251 (by decide +kernel) rfl rfl (Nat.le_of_ble_eq_true rfl) (by assumption) (by first | rfl | (simp only [List.all_cons, List.all_nil, g_ok, Bool.and_true, Bool.true_and, Bool.and_eq_true, decide_eq_true_eq] <;> first | assumption | exact ⟨by assumption, by assumption⟩ | exact ⟨by assumption, by assumption, by assumption⟩ | omega)) rfl (m_42 hbA hbB ⟨u21, v21⟩ hG) (fun x26 hq26 => ?_)
  refine JZ_zret i_43_29 r_43 (by omega) ?_
  exact ⟨hq26, rfl⟩
theorem m_57 {ψ : jSt} (n : Nat) (hn : ψ 2 81 = (n : Int)) (hn8 : n ≤ 8) (hn2 : 2 ≤ n) (hnan : FP.ddiv (FP.i2d (jI (hsum ψ 2 n))) (FP.i2d (jI (n : Int))) &&& 0x7fffffffffffffff ≤ 0x7ff0000000000000) (hG : jG ψ) : JZ Eq xs L0 57 0 ([some (.ref 1)] ++ List.replicate 2 none) [] ψ (oD fun x ψ' => x = FP.ddiv (FP.i2d (jI (hsum ψ 2 n))) (FP.i2d (jI (n : Int))) ∧ ψ' = ψ) := by
  have hT := jTow1
  have hrB := jR_rig (r := 2) (by decide)
  refine JZ_aload_n i_57_0 (by rfl) ?_
  refine JZ_gR i_57_1 f_57_10 jTow1 (by rfl) ?_
  refine JZ_gB (key := 81) i_57_4 f_57_37 (by assumption) (by rfl) rfl hG (fun u4 v4 => ?_)
  refine JZ_ifne (tg := 12) i_57_7 (by decide) (by omega) (fun h7 => ?_) (fun h7 => ?_)
  · refine JZ_iconst i_57_12 ?_
    refine JZ_istore_n i_57_13 (by rw [l_57]; decide) (by rfl) ?_
    refine JZ_iconst i_57_14 ?_
    refine JZ_istore_n i_57_15 (by rw [l_57]; decide) (by rfl) ?_
    refine JZ_fg (L' := [some (.ref 1), some (.int (jI (0))), some (.int (jI (((0 : Nat) : Int))))]) ?_ (by repeat (first | exact trivial | refine ⟨rfl, ?_⟩))
    refine JZ_forP (σ := Unit) (N := n) (I := fun i _ => True) (Lf := fun i _ => [some (.ref 1), some (.int (jI (hsum ψ 2 i))), some (.int (jI ((i : Int))))]) ?_ ?_ n 0 () (by omega) ?_
    · intro i u hi hI hK
      have hbar := jR_bar (r := 2) (by decide) (show i < 8 by omega)
      refine JZ_iload_n i_57_16 (by rfl) ?_
      refine JZ_aload_n i_57_17 (by rfl) ?_
      refine JZ_gR i_57_18 f_57_10 jTow1 (by rfl) ?_
      refine JZ_gB (key := 81) i_57_21 f_57_37 (by assumption) (by rfl) rfl hG (fun u21 v21 => ?_)
      refine JZ_icge (tg := 48) i_57_24 (by decide) (by omega) (by omega) (fun h24 => ?_) (fun h24 => ?_)
      · exfalso; omega
      refine JZ_iload_n i_57_27 (by rfl) ?_
      refine JZ_aload_n i_57_28 (by rfl) ?_
      refine JZ_gR i_57_29 f_57_10 jTow1 (by rfl) ?_
      refine JZ_gR i_57_32 f_57_46 (by assumption) (by rfl) ?_
      refine JZ_iload_n i_57_35 (by rfl) ?_
      refine JZ_aBar (i) i_57_36 (by decide) (by omega) (by omega) ?_
      refine JZ_gB (key := 3) i_57_37 f_57_223 (by assumption) (by rfl) rfl hG (fun u37 v37 => ?_)
      refine JZ_iadd i_57_40 ?_
      refine JZ_istore_n i_57_41 (by rw [l_57]; decide) (by rfl) ?_
      refine JZ_iinc i_57_42 (by rfl) (by rw [l_57]; decide) (by rfl) ?_
      refine JZ_goto (tg := 16) i_57_45 (by decide) ?_
      exact JZ_fg (hK () trivial) (by repeat (first | exact trivial | refine ⟨rfl, ?_⟩))
    · intro u hI
      refine JZ_iload_n i_57_16 (by rfl) ?_
      refine JZ_aload_n i_57_17 (by rfl) ?_
      refine JZ_gR i_57_18 f_57_10 jTow1 (by rfl) ?_
      refine JZ_gB (key := 81) i_57_21 f_57_37 (by assumption) (by rfl) rfl hG (fun u21 v21 => ?_)
      refine JZ_icge (tg := 48) i_57_24 (by decide) (by omega) (by omega) (fun h24 => ?_) (fun h24 => ?_)
      · refine JZ_iload_n i_57_48 (by rfl) ?_
        refine JZ_i2d i_57_49 ?_
        refine JZ_aload_n i_57_50 (by rfl) ?_
        refine JZ_gR i_57_51 f_57_10 jTow1 (by rfl) ?_
        refine JZ_gB (key := 81) i_57_54 f_57_37 (by assumption) (by rfl) rfl hG (fun u54 v54 => ?_)
        refine JZ_i2d i_57_57 ?_
        refine JZ_ddiv i_57_58 (by rw [hn]; exact hnan) ?_
        refine JZ_dret i_57_59 r_57 ?_
        exact ⟨by rw [hn], rfl⟩
      exfalso; omega
    · trivial
  exfalso; omega
theorem m_54 {ψ : jSt} (n : Nat) (hn : ψ 2 81 = (n : Int)) (hn8 : n ≤ 8) (hS : jS ψ 2) (hY : jY ψ 2) (hG : jG ψ) (h86 : ψ 2 86 < 3000) : JZ Eq xs L0 54 0 ([some (.ref 1), some (.int (jI 1))] ++ List.replicate 2 none) [] ψ (oI fun x φ => x = φ 2 90 - ψ 2 90 ∧ SEC ψ 2 n φ) := by
  have hT := jTow1
  have hrB := jR_rig (r := 2) (by decide)
  have h0 := hY.1.1
  refine JZ_iload_n i_54_0 (by rfl) ?_
  refine JZ_iconst i_54_1 ?_
  refine JZ_iclt (tg := 11) i_54_2 (by decide) (by omega) (by omega) (fun h2 => ?_) (fun h2 => ?_)
  · exfalso; omega
  refine JZ_iload_n i_54_5 (by rfl) ?_
  refine JZ_bipush i_54_6 (by decide) ?_
  refine JZ_icle (tg := 21) i_54_8 (by decide) (by omega) (by omega) (fun h8 => ?_) (fun h8 => ?_)
  · refine JZ_aload_n i_54_21 (by rfl) ?_
    refine JZ_gR i_54_22 f_54_10 jTow1 (by rfl) ?_
    refine JZ_gB (key := 86) i_54_25 f_54_212 (by assumption) (by rfl) rfl hG (fun u25 v25 => ?_)
    refine JZ_iload_n i_54_28 (by rfl) ?_
    refine JZ_iadd i_54_29 ?_
    refine JZ_sipush i_54_30 (by decide) ?_
    refine JZ_icle (tg := 46) i_54_33 (by decide) (by omega) (by omega) (fun h33 => ?_) (fun h33 => ?_)
    · refine JZ_aload_n i_54_46 (by rfl) ?_
      refine JZ_gR i_54_47 f_54_10 jTow1 (by rfl) ?_
      refine JZ_gB (key := 90) i_54_50 f_54_217 (by assumption) (by rfl) rfl hG (fun u50 v50 => ?_)
      refine JZ_istore_n i_54_53 (by rw [l_54]; decide) (by rfl) ?_
      refine JZ_iconst i_54_54 ?_
      refine JZ_istore_n i_54_55 (by rw [l_54]; decide) (by rfl) ?_
      refine JZ_fg (L' := [some (.ref 1), some (.int (jI 1)), some (.int (jI (ψ 2 90))), some (.int (jI (((0 : Nat) : Int))))]) ?_ (by repeat (first | exact trivial | refine ⟨rfl, ?_⟩))
      refine JZ_for (σ := Unit) (N := 1) (I := fun i _ φ => jG φ ∧ (i = 0 → φ = ψ) ∧ (i = 1 → SEC ψ 2 n φ)) (Lf := fun i _ => [some (.ref 1), some (.int (jI 1)), some (.int (jI (ψ 2 90))), some (.int (jI ((i : Int))))]) ?_ ?_ 1 0 () ψ (by omega) ?_
      · intro i u φ hi hI hK
        have hi0 : i = 0 := by omega
        obtain ⟨hG, hI, _⟩ := hI
        refine JZ_iload_n i_54_56 (by rfl) ?_
        refine JZ_iload_n i_54_57 (by rfl) ?_
        refine JZ_icge (tg := 74) i_54_58 (by decide) (by omega) (by omega) (fun h58 => ?_) (fun h58 => ?_)
        · exfalso; omega
        refine JZ_aload_n i_54_61 (by rfl) ?_
        refine JZ_gR i_54_62 f_54_10 jTow1 (by rfl) ?_
        refine JZ_v0V (j := 1) i_54_65 v_54_220 (by decide +kernel) rfl rfl (Nat.le_of_ble_eq_true rfl) (by assumption) rfl rfl (m_53 (r := 2) (by decide) n (by rw [hI hi0]; exact hn) hn8 (by rw [hI hi0]; exact hS) (by rw [hI hi0]; exact hY) (by rw [hI hi0]; omega) hG) (fun φ2 hQ65 => ?_)
        refine JZ_iinc i_54_68 (by rfl) (by rw [l_54]; decide) (by rfl) ?_
        refine JZ_goto (tg := 56) i_54_71 (by decide) ?_
        exact JZ_fg (hK () _ ⟨hQ65.1, fun q => absurd q (by omega), fun _ => by rw [hI hi0] at hQ65; exact hQ65⟩) (by repeat (first | exact trivial | refine ⟨rfl, ?_⟩))
      · intro u φ hI
        obtain ⟨hG, _, hI⟩ := hI
        refine JZ_iload_n i_54_56 (by rfl) ?_
        refine JZ_iload_n i_54_57 (by rfl) ?_
        refine JZ_icge (tg := 74) i_54_58 (by decide) (by omega) (by omega) (fun h58 => ?_) (fun h58 => ?_)
        · refine JZ_aload_n i_54_74 (by rfl) ?_
          refine JZ_gR i_54_75 f_54_10 jTow1 (by rfl) ?_
          refine JZ_gB (key := 90) i_54_78 f_54_217 (by assumption) (by rfl) rfl hG (fun u78 v78 => ?_)
          refine JZ_iload_n i_54_81 (by rfl) ?_
          refine JZ_isub i_54_82 ?_
          refine JZ_iret i_54_83 r_54 ?_
          exact ⟨rfl, hI rfl⟩
        exfalso; omega
      · exact ⟨hG, fun _ => rfl, fun q => absurd q (by omega)⟩
    exfalso; omega
  exfalso; omega
end P36
