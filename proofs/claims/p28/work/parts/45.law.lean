/-! the law -/
theorem jSq_trans {ω ψ φ : jSt} (h1 : jSq ω ψ) (h2 : jSq ψ φ) : jSq ω φ := ⟨h2.1, fun a k h => by rw [h2.2 a k (by rw [live_eq h1]; exact h), h1.2 a k h]⟩
theorem oki {m : Nat} {x : Int32} {l : List Value} (h : l.all (g_ok m) = true) : (.int x :: l : List Value).all (g_ok m) = true := h
theorem okr {m a : Nat} {l : List Value} (ha : a < m) (h : l.all (g_ok m) = true) : (.ref a :: l : List Value).all (g_ok m) = true := by
  show (decide (a < m) && l.all (g_ok m)) = true
  rw [decide_eq_true ha, h]
  rfl
theorem lg_cmp_self (d : Int64) : lg_cmp d d = jI 0 := by
  unfold lg_cmp
  rw [if_neg (by rw [gt_iff_lt, Int64.lt_iff_toInt_lt]; omega), if_pos rfl]
  rfl
/-- a state that isSo leaves, whatever rehearsal it finds -/
def ES (xs : Nat → Int32) (L0 : Nat) (ψ : jSt) (n : Nat) : Prop := ∃ ω, INV ω n ∧ ω 2 86 ≤ 3000 ∧ jSq ω ψ ∧ ∀ (pl : Option gE) (ψ1 : jSt) (X : gM), jSq ω ψ1 → 132 ≤ X.1 → X.2 131 = pl → LW xs L0 67 0 ([some (.ref 1), some (.int (jI (n : Int)))] ++ List.replicate 9 none) [] ψ1 X (fun x φ X' => x = 1 ∧ φ = ψ ∧ X'.1 ≤ X.1 + 20 ∧ X'.2 131 = pl)
section P45
variable {xs : Nat → Int32} {L0 : Nat}
theorem LW_dig {pc : Nat} {L : List (Option Value)} {ψ ψ' : jSt} {X : gM} {P : Int → jSt → gM → Prop} {d : Int64} (hI : gI 74 pc = some (.invokevirtual 96, 3)) (hX : 132 ≤ X.1) (hY : ∃ f : Nat → Int32, X.2 131 = some (.inr (0, 10, .inl f)))
    (hr1 : ∀ X : gM, 131 ≤ X.1 → (∃ Y, ZP X Y) → ∃ X', ZP X X' ∧ ∀ (lv : gL) (c e : Nat), jQ 131 ([some (.ref 1)] ++ List.replicate 4 none) lv → g_R xs L0 73 0 lv [] (jM ψ X) c e (.inl (some (.long d)), jM ψ' X', c + jxc (.inl (some (.long d))), e + 6 * jxc (.inl (some (.long d)))))
    (h : ∀ X' : gM, X'.1 = X.1 → (∃ f : Nat → Int32, X'.2 131 = some (.inr (0, 10, .inl f))) → LW xs L0 74 (pc + 3) L [.long d] ψ' X' P) : LW xs L0 74 pc L [.ref 1] ψ X P := by
  obtain ⟨f, hf⟩ := hY
  obtain ⟨X1, ⟨f1, f2, h0, h1, e1⟩, hr1⟩ := hr1 X (by omega) ⟨_, f, f, hX, hf, rfl⟩
  have e2 : X1.1 = X.1 := by rw [e1]
  have e3 : X1.2 131 = some (.inr (0, 10, .inl f2)) := by
    rw [e1]
    show va_up X.2 131 (some (.inr (0, 10, .inl f2))) 131 = _
    simp [va_up]
  obtain ⟨w, ψ2, X2, nd, hP, h2, h3, hr2⟩ := h X1 e2 ⟨f2, e3⟩
  rw [e2] at h2 h3 hr2
  refine ⟨w, ψ2, X2, nd, hP, h2, h3, fun lv c e hl => ?_⟩
  have hinv : g_inv 74 (.invokevirtual 96) ([] ++ .ref 1 :: []) lv (jM ψ X) = some (73, .ref 1 :: [].reverse, []) := J_inv (M := jM ψ X) (lv := lv) (a := 1) (args := []) (rest := []) rfl (by decide) v_74_96 (by decide +kernel) rfl rfl (Nat.le_of_ble_eq_true rfl) (fun _ => by
    unfold g_rcv
    rw [jM_rd (by omega) jTow1]
    show decide (5 = 5) = true
    exact decide_eq_true rfl) (Or.inl rfl) hl.1 rfl (by show 1 < X.1; omega) rfl
  have hq : jQ 131 ([some (.ref 1)] ++ List.replicate 4 none) (lv_args 0 [.ref 1]) := jQ_args (as := [.ref 1]) rfl rfl
  exact g_R_cal (j_thr hI rfl) hI rfl hinv (hr1 _ 0 0 hq) (hr2 lv c e hl)
theorem m_74 {ψ : jSt} {X : gM} {pl : Option gE} {f0 : Nat → Int32} (hL : L0 ≤ 260) (hSI0 : SI ψ 0 0 0) (hX0 : X.1 = 132) (hpl : X.2 131 = pl) (hpf : pl = some (.inr (0, 10, .inl f0))) : LW xs L0 74 7 ([some (.ref 0)] ++ List.replicate 14 none) [.ref 1] ψ X (fun x _ X' => x = 1 ∧ X'.1 ≤ 5000) := by
  have hT := jTow1
  refine LW_astore_n i_74_7 (by rw [l_74]; decide) (by rfl) (by first | omega | (dsimp only; omega)) ?_
  refine LW_iconst i_74_8 ?_
  refine LW_aload_n i_74_9 (by rfl) ?_
  refine LW_iconst i_74_10 ?_
  refine LW_t2P (j := 0) i_74_11 v_74_12 (by omega) (by decide +kernel) rfl rfl (Nat.le_of_ble_eq_true rfl) (oki (okr (by omega) rfl)) rfl (m_6 hL (by omega)) (fun x11 hx11 => ?_)
  refine LW_bipush i_74_14 (by decide) ?_
  refine LW_t2P (j := 0) i_74_16 v_74_18 (by omega) (by decide +kernel) rfl rfl (Nat.le_of_ble_eq_true rfl) rfl rfl (m_7 (by omega)) (fun x16 hx16 => ?_)
  have hb16 : 0 ≤ x16 ∧ x16 < 7 := hx16.2
  refine LW_iadd i_74_19 ?_
  obtain ⟨n, hn0⟩ := Int.eq_ofNat_of_zero_le (show 0 ≤ 2 + x16 by omega)
  rw [hn0]
  have hn2 : 2 ≤ n := by omega
  have hn8 : n ≤ 8 := by omega
  refine LW_istore_n i_74_20 (by rw [l_74]; decide) (by rfl) ?_
  refine LW_iconst i_74_21 ?_
  refine LW_istore_n i_74_22 (by rw [l_74]; decide) (by rfl) ?_
  refine LW_fg (L' := [some (.ref 0), some (.ref 1), some (.int (jI (n : Int))), some (.int (jI ((0 : Nat) : Int))), none, none, none, none, none, none, none, none, none, none, none]) ?_ (by repeat (first | exact trivial | refine ⟨rfl, ?_⟩))
  refine LW_for (σ := Unit) (N := n) (I := fun i _ ψ1 X1 => SI ψ1 i 0 0 ∧ X1 = X) (Lf := fun i _ => [some (.ref 0), some (.ref 1), some (.int (jI (n : Int))), some (.int (jI (i : Int))), none, none, none, none, none, none, none, none, none, none, none]) ?_ ?_ n 0 () ψ X (by omega) ?_
  · intro i u ψ1 X1 hi hJ hK
    obtain ⟨hSI, eX⟩ := hJ
    rw [eX]
    refine LW_iload_n i_74_23 (by rfl) ?_
    refine LW_iload_n i_74_24 (by rfl) ?_
    refine LW_icge (tg := 79) i_74_25 (by decide) (by omega) (by omega) (fun h25 => ?_) (fun h25 => ?_)
    · exfalso; omega
    refine LW_aload_n i_74_28 (by rfl) ?_
    refine LW_aload_n i_74_29 (by rfl) ?_
    refine LW_iconst i_74_30 ?_
    refine LW_t2P (j := 0) i_74_31 v_74_12 (by omega) (by decide +kernel) rfl rfl (Nat.le_of_ble_eq_true rfl) (oki (okr (by omega) rfl)) (okr (by omega) rfl) (m_6 hL (by omega)) (fun x31 hx31 => ?_)
    refine LW_iload_n i_74_34 (by rfl) ?_
    refine LW_ishr i_74_35 ?_
    refine LW_iconst i_74_36 ?_
    refine LW_t2P (j := 0) i_74_37 v_74_18 (by omega) (by decide +kernel) rfl rfl (Nat.le_of_ble_eq_true rfl) rfl (okr (by omega) rfl) (m_7 (by omega)) (fun x37 hx37 => ?_)
    have hb37 : 0 ≤ x37 ∧ x37 < 3 := hx37.2
    have h48 : ∀ e : Int, (e = 0 ∨ e = 1) → LW xs L0 74 48 [some (.ref 0), some (.ref 1), some (.int (jI (n : Int))), some (.int (jI (i : Int))), none, none, none, none, none, none, none, none, none, none, none] [.int (jI e), .ref 1] ψ1 X (fun x _ X' => x = 1 ∧ X'.1 ≤ 5000) := by
      intro e he
      refine LW_bipush i_74_48 (by decide) ?_
      refine LW_aload_n i_74_50 (by rfl) ?_
      refine LW_iconst i_74_51 ?_
      refine LW_t2P (j := 0) i_74_52 v_74_12 (by omega) (by decide +kernel) rfl rfl (Nat.le_of_ble_eq_true rfl) (oki (okr (by omega) rfl)) (oki (oki (okr (by omega) rfl))) (m_6 hL (by omega)) (fun x52 hx52 => ?_)
      refine LW_iload_n i_74_55 (by rfl) ?_
      refine LW_ishr i_74_56 ?_
      refine LW_sipush i_74_57 (by decide) ?_
      refine LW_t2P (j := 0) i_74_60 v_74_18 (by omega) (by decide +kernel) rfl rfl (Nat.le_of_ble_eq_true rfl) rfl (oki (oki (okr (by omega) rfl))) (m_7 (by omega)) (fun x60 hx60 => ?_)
      have hb60 : 0 ≤ x60 ∧ x60 < 200 := hx60.2
      refine LW_iadd i_74_63 ?_
      refine LW_v2I (j := 1) i_74_64 v_74_22 (by omega) (by decide +kernel) rfl rfl (Nat.le_of_ble_eq_true rfl) (by assumption) rfl rfl (m_8 hSI (by omega) he (by omega)) (fun x64 φ64 hx64 => ?_)
      obtain ⟨e64, hS64⟩ := hx64
      refine LW_iload_n i_74_67 (by rfl) ?_
      refine LW_iceq (tg := 73) i_74_68 (by decide) (by omega) (by omega) (fun h68 => ?_) (fun h68 => ?_)
      · refine LW_iinc i_74_73 (by rfl) (by rw [l_74]; decide) (by rfl) ?_
        refine LW_goto (tg := 23) i_74_76 (by decide) ?_
        exact LW_fg (hK () _ _ ⟨hS64, rfl⟩) (by repeat (first | exact trivial | refine ⟨rfl, ?_⟩))
      exfalso; omega
    refine LW_ifne (tg := 47) i_74_40 (by decide) (by omega) (fun h40 => ?_) (fun h40 => ?_)
    · refine LW_iconst i_74_47 ?_
      exact LW_fg (h48 _ (by omega)) (by repeat (first | exact trivial | refine ⟨rfl, ?_⟩))
    refine LW_iconst i_74_43 ?_
    refine LW_goto (tg := 48) i_74_44 (by decide) ?_
    exact LW_fg (h48 _ (by omega)) (by repeat (first | exact trivial | refine ⟨rfl, ?_⟩))
  · intro u ψa Xa hJ
    obtain ⟨hSIa, eX⟩ := hJ
    rw [eX]
    refine LW_iload_n i_74_23 (by rfl) ?_
    refine LW_iload_n i_74_24 (by rfl) ?_
    refine LW_icge (tg := 79) i_74_25 (by decide) (by omega) (by omega) (fun h25 => ?_) (fun h25 => ?_)
    · refine LW_iconst i_74_79 ?_
      refine LW_istore_n i_74_80 (by rw [l_74]; decide) (by rfl) ?_
      refine LW_fg (L' := [some (.ref 0), some (.ref 1), some (.int (jI (n : Int))), some (.int (jI ((0 : Nat) : Int))), none, none, none, none, none, none, none, none, none, none, none]) ?_ (by repeat (first | exact trivial | refine ⟨rfl, ?_⟩))
      refine LW_for (σ := Unit) (N := 8) (I := fun i _ ψ1 X1 => SI ψ1 n i 0 ∧ X1 = X) (Lf := fun i _ => [some (.ref 0), some (.ref 1), some (.int (jI (n : Int))), some (.int (jI (i : Int))), none, none, none, none, none, none, none, none, none, none, none]) ?_ ?_ 8 0 () ψa X (by omega) ?_
      · intro i u ψ1 X1 hi hJ hK
        obtain ⟨hSI, eX⟩ := hJ
        rw [eX]
        refine LW_iload_n i_74_81 (by rfl) ?_
        refine LW_bipush i_74_82 (by decide) ?_
        refine LW_icge (tg := 149) i_74_84 (by decide) (by omega) (by omega) (fun h84 => ?_) (fun h84 => ?_)
        · exfalso; omega
        refine LW_aload_n i_74_87 (by rfl) ?_
        refine LW_iconst i_74_88 ?_
        refine LW_aload_n i_74_89 (by rfl) ?_
        refine LW_iconst i_74_90 ?_
        refine LW_iload_n i_74_91 (by rfl) ?_
        refine LW_iconst i_74_92 ?_
        refine LW_iremI i_74_93 (by omega) (by omega) (by omega) (by omega) ?_
        refine LW_iadd i_74_94 ?_
        refine LW_t2P (j := 0) i_74_95 v_74_12 (by omega) (by decide +kernel) rfl rfl (Nat.le_of_ble_eq_true rfl) (oki (okr (by omega) rfl)) (oki (okr (by omega) rfl)) (m_6 hL (by omega)) (fun x95 hx95 => ?_)
        refine LW_iload_n i_74_98 (by rfl) ?_
        refine LW_ishr i_74_99 ?_
        refine LW_bipush i_74_100 (by decide) ?_
        refine LW_t2P (j := 0) i_74_102 v_74_18 (by omega) (by decide +kernel) rfl rfl (Nat.le_of_ble_eq_true rfl) rfl (oki (okr (by omega) rfl)) (m_7 (by omega)) (fun x102 hx102 => ?_)
        have hb102 : 0 ≤ x102 ∧ x102 < 60 := hx102.2
        refine LW_iadd i_74_105 ?_
        refine LW_aload_n i_74_106 (by rfl) ?_
        refine LW_iconst i_74_107 ?_
        refine LW_iload_n i_74_108 (by rfl) ?_
        refine LW_iconst i_74_109 ?_
        refine LW_iremI i_74_110 (by omega) (by omega) (by omega) (by omega) ?_
        refine LW_iadd i_74_111 ?_
        refine LW_t2P (j := 0) i_74_112 v_74_12 (by omega) (by decide +kernel) rfl rfl (Nat.le_of_ble_eq_true rfl) (oki (okr (by omega) rfl)) (oki (okr (by omega) rfl)) (m_6 hL (by omega)) (fun x112 hx112 => ?_)
        refine LW_iload_n i_74_115 (by rfl) ?_
        refine LW_ishr i_74_116 ?_
        refine LW_bipush i_74_117 (by decide) ?_
        refine LW_t2P (j := 0) i_74_119 v_74_18 (by omega) (by decide +kernel) rfl rfl (Nat.le_of_ble_eq_true rfl) rfl (oki (okr (by omega) rfl)) (m_7 (by omega)) (fun x119 hx119 => ?_)
        have hb119 : 0 ≤ x119 ∧ x119 < 61 := hx119.2
        refine LW_aload_n i_74_122 (by rfl) ?_
        refine LW_bipush i_74_123 (by decide) ?_
        refine LW_t2P (j := 0) i_74_125 v_74_12 (by omega) (by decide +kernel) rfl rfl (Nat.le_of_ble_eq_true rfl) (oki (okr (by omega) rfl)) (oki (oki (okr (by omega) rfl))) (m_6 hL (by omega)) (fun x125 hx125 => ?_)
        refine LW_iload_n i_74_128 (by rfl) ?_
        refine LW_ishr i_74_129 ?_
        refine LW_iconst i_74_130 ?_
        refine LW_t2P (j := 0) i_74_131 v_74_18 (by omega) (by decide +kernel) rfl rfl (Nat.le_of_ble_eq_true rfl) rfl (oki (oki (okr (by omega) rfl))) (m_7 (by omega)) (fun x131 hx131 => ?_)
        have hb131 : 0 ≤ x131 ∧ x131 < 3 := hx131.2
        refine LW_v3I (j := 1) i_74_134 v_74_26 (by omega) (by decide +kernel) rfl rfl (Nat.le_of_ble_eq_true rfl) (by assumption) rfl rfl (m_9 hSI (by omega) (by omega) (by omega) (by omega)) (fun x134 φ134 hx134 => ?_)
        obtain ⟨e134, hS134⟩ := hx134
        refine LW_iload_n i_74_137 (by rfl) ?_
        refine LW_iceq (tg := 143) i_74_138 (by decide) (by omega) (by omega) (fun h138 => ?_) (fun h138 => ?_)
        · refine LW_iinc i_74_143 (by rfl) (by rw [l_74]; decide) (by rfl) ?_
          refine LW_goto (tg := 81) i_74_146 (by decide) ?_
          exact LW_fg (hK () _ _ ⟨hS134, rfl⟩) (by repeat (first | exact trivial | refine ⟨rfl, ?_⟩))
        exfalso; omega
      · intro u ψb Xb hJ
        obtain ⟨hSIb, eX⟩ := hJ
        rw [eX]
        refine LW_iload_n i_74_81 (by rfl) ?_
        refine LW_bipush i_74_82 (by decide) ?_
        refine LW_icge (tg := 149) i_74_84 (by decide) (by omega) (by omega) (fun h84 => ?_) (fun h84 => ?_)
        · refine LW_iconst i_74_149 ?_
          refine LW_istore_n i_74_150 (by rw [l_74]; decide) (by rfl) ?_
          refine LW_fg (L' := [some (.ref 0), some (.ref 1), some (.int (jI (n : Int))), some (.int (jI ((0 : Nat) : Int))), none, none, none, none, none, none, none, none, none, none, none]) ?_ (by repeat (first | exact trivial | refine ⟨rfl, ?_⟩))
          refine LW_for (σ := Unit) (N := 4) (I := fun i _ ψ1 X1 => SI ψ1 n 8 i ∧ X1 = X) (Lf := fun i _ => [some (.ref 0), some (.ref 1), some (.int (jI (n : Int))), some (.int (jI (i : Int))), none, none, none, none, none, none, none, none, none, none, none]) ?_ ?_ 4 0 () ψb X (by omega) ?_
          · intro i u ψ1 X1 hi hJ hK
            obtain ⟨hSI, eX⟩ := hJ
            rw [eX]
            refine LW_iload_n i_74_151 (by rfl) ?_
            refine LW_iconst i_74_152 ?_
            refine LW_icge (tg := 184) i_74_153 (by decide) (by omega) (by omega) (fun h153 => ?_) (fun h153 => ?_)
            · exfalso; omega
            refine LW_aload_n i_74_156 (by rfl) ?_
            have h169 : ∀ e : Int, (-1 ≤ e ∧ e ≤ 5) → LW xs L0 74 169 [some (.ref 0), some (.ref 1), some (.int (jI (n : Int))), some (.int (jI (i : Int))), none, none, none, none, none, none, none, none, none, none, none] [.int (jI e), .ref 1] ψ1 X (fun x _ X' => x = 1 ∧ X'.1 ≤ 5000) := by
              intro e he
              refine LW_v1I (j := 0) i_74_169 v_74_30 (by omega) (by decide +kernel) rfl rfl (Nat.le_of_ble_eq_true rfl) (by assumption) rfl rfl (m_10 hSI (by omega) he) (fun x169 φ169 hx169 => ?_)
              obtain ⟨e169, hS169⟩ := hx169
              refine LW_iload_n i_74_172 (by rfl) ?_
              refine LW_iceq (tg := 178) i_74_173 (by decide) (by omega) (by omega) (fun h173 => ?_) (fun h173 => ?_)
              · refine LW_iinc i_74_178 (by rfl) (by rw [l_74]; decide) (by rfl) ?_
                refine LW_goto (tg := 151) i_74_181 (by decide) ?_
                exact LW_fg (hK () _ _ ⟨hS169, rfl⟩) (by repeat (first | exact trivial | refine ⟨rfl, ?_⟩))
              exfalso; omega
            refine LW_iload_n i_74_157 (by rfl) ?_
            refine LW_iconst i_74_158 ?_
            refine LW_icge (tg := 168) i_74_159 (by decide) (by omega) (by omega) (fun h159 => ?_) (fun h159 => ?_)
            · refine LW_iconst i_74_168 ?_
              exact LW_fg (h169 _ (by omega)) (by repeat (first | exact trivial | refine ⟨rfl, ?_⟩))
            refine LW_iload_n i_74_162 (by rfl) ?_
            refine LW_iconst i_74_163 ?_
            refine LW_iadd i_74_164 ?_
            refine LW_goto (tg := 169) i_74_165 (by decide) ?_
            exact LW_fg (h169 _ (by omega)) (by repeat (first | exact trivial | refine ⟨rfl, ?_⟩))
          · intro u ψc Xc hJ
            obtain ⟨hSIc, eX⟩ := hJ
            rw [eX]
            have c86 : ψc 2 86 = 0 := hSIc.2.2.2.2.2.2.2.2.2.2.1
            refine LW_iload_n i_74_151 (by rfl) ?_
            refine LW_iconst i_74_152 ?_
            refine LW_icge (tg := 184) i_74_153 (by decide) (by omega) (by omega) (fun h153 => ?_) (fun h153 => ?_)
            · refine LW_iconst i_74_184 ?_
              refine LW_istore_n i_74_185 (by rw [l_74]; decide) (by rfl) ?_
              refine LW_iconst i_74_186 ?_
              refine LW_istore i_74_187 (by rw [l_74]; decide) (by rfl) ?_
              refine LW_fg (L' := [some (.ref 0), some (.ref 1), some (.int (jI (n : Int))), some (.int (jI 0)), some (.int (jI ((0 : Nat) : Int))), none, none, none, none, none, none, none, none, none, none]) ?_ (by repeat (first | exact trivial | refine ⟨rfl, ?_⟩))
              refine LW_for (σ := Int) (N := 80) (I := (fun i dn ψ1 X1 => INV ψ1 n ∧ ψ1 2 86 ≤ 9 * (i : Int) ∧ X.1 ≤ X1.1 ∧ X1.1 ≤ X.1 + 56 * i ∧ X1.2 131 = pl ∧ 0 ≤ dn ∧ dn ≤ 54 * (i : Int) ∧ (0 < i → ES xs L0 ψ1 n))) (Lf := fun i dn => [some (.ref 0), some (.ref 1), some (.int (jI (n : Int))), some (.int (jI dn)), some (.int (jI (i : Int))), none, none, none, none, none, none, none, none, none, none]) ?_ ?_ 80 0 0 ψc X (by omega) ?_
              · intro i dn ψ1 X1 hi hJ hK
                obtain ⟨hI, h86, hXa, hXb, hXp, hd0, hd1, hES⟩ := hJ
                obtain ⟨hG, hS, hY, hR, hNL, hLD, hn, i83, i103, hP⟩ := id hI
                have h87y := hY.2.1
                have h88y := hY.2.2.1
                have hX1 : 132 ≤ X1.1 := by omega
                have hsM : ∀ c m : Nat, c < 6 → (m : Int) < ψ1 (2 + 11 + 8 * c) 21 → jsM ψ1 (2 + 13 + 8 * c + m) (ψ1 2 81) := hS.2.2.2.2.2.1
                refine LW_iload i_74_189 (by rfl) ?_
                refine LW_bipush i_74_191 (by decide) ?_
                refine LW_icge (tg := 1086) i_74_193 (by decide) (by omega) (by omega) (fun h193 => ?_) (fun h193 => ?_)
                · exfalso; omega
                have h218 : ∀ w : Int32, LW xs L0 74 218 [some (.ref 0), some (.ref 1), some (.int (jI (n : Int))), some (.int (jI dn)), some (.int (jI (i : Int))), some (.int (w)), none, none, none, none, none, none, none, none, none] [] ψ1 X1 (fun x _ X' => x = 1 ∧ X'.1 ≤ 5000) := by
                  intro w
                  refine LW_iload i_74_218 (by rfl) ?_
                  refine LW_iconst i_74_220 ?_
                  refine LW_ishr i_74_221 ?_
                  refine LW_iload_n i_74_222 (by rfl) ?_
                  refine LW_t2P (j := 0) i_74_223 v_74_18 (by omega) (by decide +kernel) rfl rfl (Nat.le_of_ble_eq_true rfl) rfl rfl (m_7 (by omega)) (fun x223 hx223 => ?_)
                  have hb223 : 0 ≤ x223 ∧ x223 < (n : Int) := hx223.2
                  obtain ⟨b, hq223⟩ := Int.eq_ofNat_of_zero_le hb223.1
                  subst hq223
                  have hLb := hLD b (by omega)
                  have hBb := hS.2.2.2.1 b (by omega)
                  unfold jsB at hBb
                  refine LW_istore i_74_226 (by rw [l_74]; decide) (by rfl) ?_
                  refine LW_iload i_74_228 (by rfl) ?_
                  refine LW_iconst i_74_230 ?_
                  refine LW_ishr i_74_231 ?_
                  refine LW_bipush i_74_232 (by decide) ?_
                  refine LW_t2P (j := 0) i_74_234 v_74_18 (by omega) (by decide +kernel) rfl rfl (Nat.le_of_ble_eq_true rfl) rfl rfl (m_7 (by omega)) (fun x234 hx234 => ?_)
                  have hb234 : 0 ≤ x234 ∧ x234 < 8 := hx234.2
                  obtain ⟨p, hq234⟩ := Int.eq_ofNat_of_zero_le hb234.1
                  subst hq234
                  have hPp := hP p (by omega)
                  refine LW_istore i_74_237 (by rw [l_74]; decide) (by rfl) ?_
                  refine LW_iload i_74_239 (by rfl) ?_
                  refine LW_iconst i_74_241 ?_
                  refine LW_ishr i_74_242 ?_
                  refine LW_iconst i_74_243 ?_
                  refine LW_t2P (j := 0) i_74_244 v_74_18 (by omega) (by decide +kernel) rfl rfl (Nat.le_of_ble_eq_true rfl) rfl rfl (m_7 (by omega)) (fun x244 hx244 => ?_)
                  have hb244 : 0 ≤ x244 ∧ x244 < 4 := hx244.2
                  obtain ⟨c, hq244⟩ := Int.eq_ofNat_of_zero_le hb244.1
                  subst hq244
                  obtain ⟨mc, hmc⟩ := Int.eq_ofNat_of_zero_le (hS.2.2.2.2.1 c (by omega)).1.1
                  have hm6 := (hS.2.2.2.2.1 c (by omega)).1.2
                  refine LW_istore i_74_247 (by rw [l_74]; decide) (by rfl) ?_
                  have h262 : ∀ e9 : Int, (e9 = 1 ∧ ¬ ψ1 2 87 = -1 ∨ e9 = 0 ∧ ψ1 2 87 = -1) → LW xs L0 74 262 [some (.ref 0), some (.ref 1), some (.int (jI (n : Int))), some (.int (jI dn)), some (.int (jI (i : Int))), some (.int (w)), some (.int (jI (b : Int))), some (.int (jI (p : Int))), some (.int (jI (c : Int))), none, none, none, none, none, none] [.int (jI e9)] ψ1 X1 (fun x _ X' => x = 1 ∧ X'.1 ≤ 5000) := by
                    intro e9 he9
                    refine LW_istore i_74_262 (by rw [l_74]; decide) (by rfl) ?_
                    have h284 : ∀ e10 : Int, (e10 = 1 ∧ ψ1 2 87 = -1 ∧ ψ1 (2 + 2 + b) 3 = 0 ∨ e10 = 0) → LW xs L0 74 284 [some (.ref 0), some (.ref 1), some (.int (jI (n : Int))), some (.int (jI dn)), some (.int (jI (i : Int))), some (.int (w)), some (.int (jI (b : Int))), some (.int (jI (p : Int))), some (.int (jI (c : Int))), some (.int (jI e9)), none, none, none, none, none] [.int (jI e10)] ψ1 X1 (fun x _ X' => x = 1 ∧ X'.1 ≤ 5000) := by
                      intro e10 he10
                      refine LW_istore i_74_284 (by rw [l_74]; decide) (by rfl) ?_
                      have h1070 : ∀ (φ : jSt) (X2 : gM) (dn2 : Int), INV φ n → φ 2 86 ≤ 9 * ((i + 1 : Nat) : Int) → X1.1 ≤ X2.1 → X2.1 ≤ X1.1 + 36 → X2.2 131 = pl → 0 ≤ dn2 → dn2 ≤ dn + 54 → LW xs L0 74 1070 [some (.ref 0), some (.ref 1), some (.int (jI (n : Int))), some (.int (jI dn2)), some (.int (jI (i : Int))), none, none, none, none, none, none, none, none, none, none] [] φ X2 (fun x _ X' => x = 1 ∧ X'.1 ≤ 5000) := by
                        intro φ X2 dn2 hI2 h862 hXa2 hXb2 hXp2 hdn0 hdn1
                        obtain ⟨ψe, heq, hrun⟩ := m_67 (xs := xs) (L0 := L0) hI2 hn2 (by omega)
                        refine LW_aload_n i_74_1070 (by rfl) ?_
                        refine LW_iload_n i_74_1071 (by rfl) ?_
                        refine LW_l2I (j := 9) i_74_1072 v_74_92 (by omega) (by decide +kernel) rfl rfl (Nat.le_of_ble_eq_true rfl) (oki (okr (by omega) rfl)) rfl (hrun pl φ X2 ⟨hI2.1, fun _ _ _ => rfl⟩ (by omega) hXp2) (fun x1072 φe X3 hle1072 hQ1072 => ?_)
                        obtain ⟨hx1072, hφe, hXb3, hXq3⟩ := hQ1072
                        rw [hφe]
                        refine LW_ifne (tg := 1080) i_74_1075 (by decide) (by omega) (fun h1075 => ?_) (fun h1075 => ?_)
                        · refine LW_iinc i_74_1080 (by rfl) (by rw [l_74]; decide) (by rfl) ?_
                          refine LW_goto (tg := 189) i_74_1083 (by decide) ?_
                          exact LW_fg (hK dn2 _ _ ⟨INV_sq hI2 heq, by rw [heq.2 2 86 (live_lo (by decide))]; exact h862, by omega, by omega, hXq3, by omega, by omega, fun _ => ⟨φ, hI2, by omega, heq, hrun⟩⟩) (by repeat (first | exact trivial | refine ⟨rfl, ?_⟩))
                        exfalso; omega
                      refine LW_aload_n i_74_286 (by rfl) ?_
                      refine LW_iload i_74_287 (by rfl) ?_
                      refine LW_iconst i_74_289 ?_
                      refine LW_v2P (j := 1) i_74_290 v_74_40 (by omega) (by decide +kernel) rfl rfl (Nat.le_of_ble_eq_true rfl) (by assumption) rfl rfl (m_20 (by omega) hG p 3 (by omega) (by decide)) (fun x290 hx290 => ?_)
                      have e290 : x290 = ψ1 (121 + p) 63 := hx290
                      have g290 := hG (121 + p) 63
                      refine LW_istore i_74_293 (by rw [l_74]; decide) (by rfl) ?_
                      have h376 : LW xs L0 74 376 [some (.ref 0), some (.ref 1), some (.int (jI (n : Int))), some (.int (jI dn)), some (.int (jI (i : Int))), some (.int (w)), some (.int (jI (b : Int))), some (.int (jI (p : Int))), some (.int (jI (c : Int))), some (.int (jI e9)), some (.int (jI e10)), some (.int (jI x290)), none, none, none] [] ψ1 X1 (fun x _ X' => x = 1 ∧ X'.1 ≤ 5000) := by
                        skip
                        refine LW_aload_n i_74_376 (by rfl) ?_
                        refine LW_iload i_74_377 (by rfl) ?_
                        refine LW_iconst i_74_379 ?_
                        refine LW_v2P (j := 1) i_74_380 v_74_37 (by omega) (by decide +kernel) rfl rfl (Nat.le_of_ble_eq_true rfl) (by assumption) rfl rfl (m_18 n hn hn8 hS hG (b) 4 (by omega) (by decide)) (fun x380 hx380 => ?_)
                        have e380 : x380 = ψ1 (2 + 2 + b) 5 := hx380
                        have g380 := hG (2 + 2 + b) 5
                        refine LW_aload_n i_74_383 (by rfl) ?_
                        refine LW_iload i_74_384 (by rfl) ?_
                        refine LW_iconst i_74_386 ?_
                        refine LW_v2P (j := 1) i_74_387 v_74_40 (by omega) (by decide +kernel) rfl rfl (Nat.le_of_ble_eq_true rfl) (by assumption) rfl rfl (m_20 (by omega) hG p 0 (by omega) (by decide)) (fun x387 hx387 => ?_)
                        have e387 : x387 = ψ1 (121 + p) 60 := hx387
                        have g387 := hG (121 + p) 60
                        refine LW_iadd i_74_390 ?_
                        refine LW_istore i_74_391 (by rw [l_74]; decide) (by rfl) ?_
                        refine LW_iload i_74_393 (by rfl) ?_
                        refine LW_ifeq (tg := 1070) i_74_395 (by decide) (by omega) (fun h395 => ?_) (fun h395 => ?_)
                        · exact LW_fg (h1070 _ _ dn (by assumption) (by omega) (by omega) (by omega) (by assumption) (by omega) (by omega)) (by repeat (first | exact trivial | refine ⟨rfl, ?_⟩))
                        refine LW_iload i_74_398 (by rfl) ?_
                        refine LW_ifge (tg := 1070) i_74_400 (by decide) (by omega) (fun h400 => ?_) (fun h400 => ?_)
                        · exact LW_fg (h1070 _ _ dn (by assumption) (by omega) (by omega) (by omega) (by assumption) (by omega) (by omega)) (by repeat (first | exact trivial | refine ⟨rfl, ?_⟩))
                        refine LW_iload i_74_403 (by rfl) ?_
                        refine LW_aload_n i_74_405 (by rfl) ?_
                        refine LW_iload i_74_406 (by rfl) ?_
                        refine LW_iconst i_74_408 ?_
                        refine LW_v2P (j := 1) i_74_409 v_74_37 (by omega) (by decide +kernel) rfl rfl (Nat.le_of_ble_eq_true rfl) (by assumption) rfl rfl (m_18 n hn hn8 hS hG (b) 1 (by omega) (by decide)) (fun x409 hx409 => ?_)
                        have e409 : x409 = ψ1 (2 + 2 + b) 2 := hx409
                        have g409 := hG (2 + 2 + b) 2
                        refine LW_icle (tg := 418) i_74_412 (by decide) (by omega) (by omega) (fun h412 => ?_) (fun h412 => ?_)
                        · refine LW_aload_n i_74_418 (by rfl) ?_
                          refine LW_iload i_74_419 (by rfl) ?_
                          refine LW_iload i_74_421 (by rfl) ?_
                          refine LW_v2I (j := 2) i_74_423 v_74_43 (by omega) (by decide +kernel) rfl rfl (Nat.le_of_ble_eq_true rfl) (by assumption) rfl rfl (m_23 hI (by omega) (by omega) (by omega) (by omega) (by omega) (by omega)) (fun x423 φ423 hQ423 => ?_)
                          obtain ⟨e423, hI2, f86, f63⟩ := hQ423
                          obtain ⟨hG2, hS2, hY2, hR2, hNL2, hLD2, hn2, j83, j103, hP2⟩ := id hI2
                          refine LW_iload i_74_426 (by rfl) ?_
                          refine LW_icne (tg := 443) i_74_428 (by decide) (by omega) (by omega) (fun h428 => ?_) (fun h428 => ?_)
                          · exfalso; omega
                          refine LW_aload_n i_74_431 (by rfl) ?_
                          refine LW_iload i_74_432 (by rfl) ?_
                          refine LW_iconst i_74_434 ?_
                          refine LW_v2P (j := 1) i_74_435 v_74_40 (by omega) (by decide +kernel) rfl rfl (Nat.le_of_ble_eq_true rfl) (by assumption) rfl rfl (m_20 (by omega) hG2 p 3 (by omega) (by decide)) (fun x435 hx435 => ?_)
                          have e435 : x435 = φ423 (121 + p) 63 := hx435
                          have g435 := hG2 (121 + p) 63
                          refine LW_iload i_74_438 (by rfl) ?_
                          refine LW_iceq (tg := 1070) i_74_440 (by decide) (by omega) (by omega) (fun h440 => ?_) (fun h440 => ?_)
                          · exact LW_fg (h1070 _ _ dn (by assumption) (by omega) (by omega) (by omega) (by assumption) (by omega) (by omega)) (by repeat (first | exact trivial | refine ⟨rfl, ?_⟩))
                          exfalso; omega
                        refine LW_goto (tg := 1070) i_74_415 (by decide) ?_
                        exact LW_fg (h1070 _ _ dn (by assumption) (by omega) (by omega) (by omega) (by assumption) (by omega) (by omega)) (by repeat (first | exact trivial | refine ⟨rfl, ?_⟩))
                      have h445 : LW xs L0 74 445 [some (.ref 0), some (.ref 1), some (.int (jI (n : Int))), some (.int (jI dn)), some (.int (jI (i : Int))), some (.int (w)), some (.int (jI (b : Int))), some (.int (jI (p : Int))), some (.int (jI (c : Int))), some (.int (jI e9)), some (.int (jI e10)), some (.int (jI x290)), none, none, none] [] ψ1 X1 (fun x _ X' => x = 1 ∧ X'.1 ≤ 5000) := by
                        skip
                        refine LW_iload i_74_445 (by rfl) ?_
                        refine LW_ifne (tg := 1070) i_74_447 (by decide) (by omega) (fun h447 => ?_) (fun h447 => ?_)
                        · exact LW_fg (h1070 _ _ dn (by assumption) (by omega) (by omega) (by omega) (by assumption) (by omega) (by omega)) (by repeat (first | exact trivial | refine ⟨rfl, ?_⟩))
                        refine LW_iload i_74_450 (by rfl) ?_
                        refine LW_iflt (tg := 1070) i_74_452 (by decide) (by omega) (fun h452 => ?_) (fun h452 => ?_)
                        · exact LW_fg (h1070 _ _ dn (by assumption) (by omega) (by omega) (by omega) (by assumption) (by omega) (by omega)) (by repeat (first | exact trivial | refine ⟨rfl, ?_⟩))
                        obtain ⟨b2, hb2⟩ := Int.eq_ofNat_of_zero_le (show 0 ≤ x290 by omega)
                        subst hb2
                        refine LW_aload_n i_74_455 (by rfl) ?_
                        refine LW_iload i_74_456 (by rfl) ?_
                        refine LW_iconst i_74_458 ?_
                        refine LW_v2P (j := 1) i_74_459 v_74_37 (by omega) (by decide +kernel) rfl rfl (Nat.le_of_ble_eq_true rfl) (by assumption) rfl rfl (m_18 n hn hn8 hS hG (b2) 2 (by omega) (by decide)) (fun x459 hx459 => ?_)
                        have e459 : x459 = ψ1 (2 + 2 + b2) 3 := hx459
                        have g459 := hG (2 + 2 + b2) 3
                        refine LW_ifne (tg := 1070) i_74_462 (by decide) (by omega) (fun h462 => ?_) (fun h462 => ?_)
                        · exact LW_fg (h1070 _ _ dn (by assumption) (by omega) (by omega) (by omega) (by assumption) (by omega) (by omega)) (by repeat (first | exact trivial | refine ⟨rfl, ?_⟩))
                        refine LW_aload_n i_74_465 (by rfl) ?_
                        refine LW_iload i_74_466 (by rfl) ?_
                        refine LW_v1I (j := 2) i_74_468 v_74_46 (by omega) (by decide +kernel) rfl rfl (Nat.le_of_ble_eq_true rfl) (by assumption) rfl rfl (m_24 (b := b2) hI (by omega) (by omega) (by omega) (by omega) (by omega)) (fun x468 φ468 hQ468 => ?_)
                        obtain ⟨e468, hI2, f86, f63⟩ := hQ468
                        obtain ⟨hG2, hS2, hY2, hR2, hNL2, hLD2, hn2, j83, j103, hP2⟩ := id hI2
                        refine LW_iload i_74_471 (by rfl) ?_
                        refine LW_icne (tg := 487) i_74_473 (by decide) (by omega) (by omega) (fun h473 => ?_) (fun h473 => ?_)
                        · exfalso; omega
                        refine LW_aload_n i_74_476 (by rfl) ?_
                        refine LW_iload i_74_477 (by rfl) ?_
                        refine LW_iconst i_74_479 ?_
                        refine LW_v2P (j := 1) i_74_480 v_74_40 (by omega) (by decide +kernel) rfl rfl (Nat.le_of_ble_eq_true rfl) (by assumption) rfl rfl (m_20 (by omega) hG2 p 3 (by omega) (by decide)) (fun x480 hx480 => ?_)
                        have e480 : x480 = φ468 (121 + p) 63 := hx480
                        have g480 := hG2 (121 + p) 63
                        refine LW_iconst i_74_483 ?_
                        refine LW_iceq (tg := 1070) i_74_484 (by decide) (by omega) (by omega) (fun h484 => ?_) (fun h484 => ?_)
                        · exact LW_fg (h1070 _ _ dn (by assumption) (by omega) (by omega) (by omega) (by assumption) (by omega) (by omega)) (by repeat (first | exact trivial | refine ⟨rfl, ?_⟩))
                        exfalso; omega
                      have h489 : LW xs L0 74 489 [some (.ref 0), some (.ref 1), some (.int (jI (n : Int))), some (.int (jI dn)), some (.int (jI (i : Int))), some (.int (w)), some (.int (jI (b : Int))), some (.int (jI (p : Int))), some (.int (jI (c : Int))), some (.int (jI e9)), some (.int (jI e10)), some (.int (jI x290)), none, none, none] [] ψ1 X1 (fun x _ X' => x = 1 ∧ X'.1 ≤ 5000) := by
                        skip
                        refine LW_iload i_74_489 (by rfl) ?_
                        refine LW_ifeq (tg := 1070) i_74_491 (by decide) (by omega) (fun h491 => ?_) (fun h491 => ?_)
                        · exact LW_fg (h1070 _ _ dn (by assumption) (by omega) (by omega) (by omega) (by assumption) (by omega) (by omega)) (by repeat (first | exact trivial | refine ⟨rfl, ?_⟩))
                        refine LW_aload_n i_74_494 (by rfl) ?_
                        refine LW_iload i_74_495 (by rfl) ?_
                        refine LW_iconst i_74_497 ?_
                        refine LW_v2P (j := 1) i_74_498 v_74_37 (by omega) (by decide +kernel) rfl rfl (Nat.le_of_ble_eq_true rfl) (by assumption) rfl rfl (m_18 n hn hn8 hS hG (b) 0 (by omega) (by decide)) (fun x498 hx498 => ?_)
                        have e498 : x498 = ψ1 (2 + 2 + b) 1 := hx498
                        have g498 := hG (2 + 2 + b) 1
                        refine LW_iconst i_74_501 ?_
                        refine LW_icne (tg := 508) i_74_502 (by decide) (by omega) (by omega) (fun h502 => ?_) (fun h502 => ?_)
                        · refine LW_iconst i_74_508 ?_
                          refine LW_aload_n i_74_509 (by rfl) ?_
                          refine LW_iload i_74_510 (by rfl) ?_
                          refine LW_iconst i_74_512 ?_
                          refine LW_v2P (j := 1) i_74_513 v_74_37 (by omega) (by decide +kernel) rfl rfl (Nat.le_of_ble_eq_true rfl) (by assumption) rfl rfl (m_18 n hn hn8 hS hG (b) 4 (by omega) (by decide)) (fun x513 hx513 => ?_)
                          have e513 : x513 = ψ1 (2 + 2 + b) 5 := hx513
                          have g513 := hG (2 + 2 + b) 5
                          refine LW_iload i_74_516 (by rfl) ?_
                          refine LW_iconst i_74_518 ?_
                          refine LW_ishr i_74_519 ?_
                          refine LW_bipush i_74_520 (by decide) ?_
                          refine LW_t2P (j := 0) i_74_522 v_74_18 (by omega) (by decide +kernel) rfl rfl (Nat.le_of_ble_eq_true rfl) rfl rfl (m_7 (by omega)) (fun x522 hx522 => ?_)
                          have hb522 : 0 ≤ x522 ∧ x522 < 80 := hx522.2
                          refine LW_iadd i_74_525 ?_
                          refine LW_bipush i_74_526 (by decide) ?_
                          refine LW_isub i_74_528 ?_
                          refine LW_maxz i_74_529 v_74_49 (Nat.le_of_ble_eq_true rfl) (by decide +kernel) (by omega) (by omega) (fun z529 q529 => ?_)
                          refine LW_istore i_74_532 (by rw [l_74]; decide) (by rfl) ?_
                          refine LW_aload_n i_74_534 (by rfl) ?_
                          refine LW_iload i_74_535 (by rfl) ?_
                          refine LW_iload i_74_537 (by rfl) ?_
                          refine LW_v2I (j := 1) i_74_539 v_74_54 (by omega) (by decide +kernel) rfl rfl (Nat.le_of_ble_eq_true rfl) (by assumption) rfl rfl (m_25 hI (by omega) (by omega) (by omega) (by omega) (by omega)) (fun x539 φ539 hQ539 => ?_)
                          obtain ⟨e539, hI2, f86, f5⟩ := hQ539
                          obtain ⟨hG2, hS2, hY2, hR2, hNL2, hLD2, hn2, j83, j103, hP2⟩ := id hI2
                          refine LW_aload_n i_74_542 (by rfl) ?_
                          refine LW_iload i_74_543 (by rfl) ?_
                          refine LW_iconst i_74_545 ?_
                          refine LW_v2P (j := 1) i_74_546 v_74_37 (by omega) (by decide +kernel) rfl rfl (Nat.le_of_ble_eq_true rfl) (by assumption) rfl rfl (m_18 n hn2 hn8 hS2 hG2 (b) 4 (by omega) (by decide)) (fun x546 hx546 => ?_)
                          have e546 : x546 = φ539 (2 + 2 + b) 5 := hx546
                          have g546 := hG2 (2 + 2 + b) 5
                          refine LW_iload i_74_549 (by rfl) ?_
                          refine LW_isub i_74_551 ?_
                          refine LW_iceq (tg := 1070) i_74_552 (by decide) (by omega) (by omega) (fun h552 => ?_) (fun h552 => ?_)
                          · exact LW_fg (h1070 _ _ dn (by assumption) (by omega) (by omega) (by omega) (by assumption) (by omega) (by omega)) (by repeat (first | exact trivial | refine ⟨rfl, ?_⟩))
                          exfalso; omega
                        refine LW_goto (tg := 1070) i_74_505 (by decide) ?_
                        exact LW_fg (h1070 _ _ dn (by assumption) (by omega) (by omega) (by omega) (by assumption) (by omega) (by omega)) (by repeat (first | exact trivial | refine ⟨rfl, ?_⟩))
                      have h557 : LW xs L0 74 557 [some (.ref 0), some (.ref 1), some (.int (jI (n : Int))), some (.int (jI dn)), some (.int (jI (i : Int))), some (.int (w)), some (.int (jI (b : Int))), some (.int (jI (p : Int))), some (.int (jI (c : Int))), some (.int (jI e9)), some (.int (jI e10)), some (.int (jI x290)), none, none, none] [] ψ1 X1 (fun x _ X' => x = 1 ∧ X'.1 ≤ 5000) := by
                        skip
                        refine LW_aload_n i_74_557 (by rfl) ?_
                        refine LW_iload i_74_558 (by rfl) ?_
                        refine LW_l2I (j := 2) i_74_560 v_74_57 (by omega) (by decide +kernel) rfl rfl (Nat.le_of_ble_eq_true rfl) (oki (okr (by omega) rfl)) rfl (m_28 c mc (by omega) (by omega) hmc (by omega) (fun m hm => (hsM c m (by omega) (by omega)).1) hG (by omega)) (fun x560 ψ560 X2 hle560 hQ560 => ?_)
                        obtain ⟨hx560, e560, hXu560, hXv560⟩ := hQ560
                        rw [e560]
                        have hXw560 : X2.2 131 = pl := by rw [hXv560]; assumption
                        refine LW_istore i_74_563 (by rw [l_74]; decide) (by rfl) ?_
                        refine LW_aload_n i_74_565 (by rfl) ?_
                        refine LW_iload i_74_566 (by rfl) ?_
                        refine LW_iload i_74_568 (by rfl) ?_
                        refine LW_iload i_74_570 (by rfl) ?_
                        refine LW_iconst i_74_572 ?_
                        refine LW_ishr i_74_573 ?_
                        refine LW_bipush i_74_574 (by decide) ?_
                        refine LW_t2P (j := 0) i_74_576 v_74_18 (by omega) (by decide +kernel) rfl rfl (Nat.le_of_ble_eq_true rfl) rfl (oki (oki (okr (by omega) rfl))) (m_7 (by omega)) (fun x576 hx576 => ?_)
                        have hb576 : 0 ≤ x576 ∧ x576 < 121 := hx576.2
                        refine LW_iconst i_74_579 ?_
                        refine LW_iload i_74_580 (by rfl) ?_
                        refine LW_iconst i_74_582 ?_
                        refine LW_ishr i_74_583 ?_
                        refine LW_bipush i_74_584 (by decide) ?_
                        refine LW_t2P (j := 0) i_74_586 v_74_18 (by omega) (by decide +kernel) rfl rfl (Nat.le_of_ble_eq_true rfl) rfl (oki (oki (oki (oki (okr (by omega) rfl))))) (m_7 (by omega)) (fun x586 hx586 => ?_)
                        have hb586 : 0 ≤ x586 ∧ x586 < 6 := hx586.2
                        refine LW_iadd i_74_589 ?_
                        refine LW_iload i_74_590 (by rfl) ?_
                        refine LW_bipush i_74_592 (by decide) ?_
                        refine LW_ishr i_74_594 ?_
                        refine LW_bipush i_74_595 (by decide) ?_
                        refine LW_t2P (j := 0) i_74_597 v_74_18 (by omega) (by decide +kernel) rfl rfl (Nat.le_of_ble_eq_true rfl) rfl (oki (oki (oki (oki (okr (by omega) rfl))))) (m_7 (by omega)) (fun x597 hx597 => ?_)
                        have hb597 : 0 ≤ x597 ∧ x597 < 8 := hx597.2
                        refine LW_l6I (j := 1) i_74_600 v_74_61 (by omega) (by decide +kernel) rfl rfl (Nat.le_of_ble_eq_true rfl) (oki (oki (oki (oki (oki (okr (by omega) rfl)))))) rfl (m_31 hI (by omega) (by omega) (by omega) (by omega) (by omega) (by omega)) (fun x600 φ600 X3 hle600 hQ600 => ?_)
                        have hr600 : -1 ≤ x600 ∧ x600 < 6 := by
                          rcases hQ600 with q | q
                          · exact ⟨by have := q.1.2.1; omega, q.1.2.2.1⟩
                          · have := q.1; omega
                        refine LW_istore i_74_603 (by rw [l_74]; decide) (by rfl) ?_
                        refine LW_iload i_74_605 (by rfl) ?_
                        refine LW_iflt (tg := 657) i_74_607 (by decide) (by omega) (fun h607 => ?_) (fun h607 => ?_)
                        · have hq600 : x600 = -1 ∧ φ600 = ψ1 ∧ X3.1 = X2.1 + 1 ∧ X3.2 131 = X2.2 131 := by
                            rcases hQ600 with q | q
                            · exfalso; have := q.1.2.1; omega
                            · exact q
                          obtain ⟨hx600, hφ600, hX3a, hX3p⟩ := hq600
                          rw [hφ600]
                          have hXw3 : X3.2 131 = pl := by rw [hX3p]; exact hXw560
                          refine LW_aload_n i_74_657 (by rfl) ?_
                          refine LW_iload i_74_658 (by rfl) ?_
                          refine LW_l2I (j := 2) i_74_660 v_74_57 (by omega) (by decide +kernel) rfl rfl (Nat.le_of_ble_eq_true rfl) (oki (okr (by omega) rfl)) rfl (m_28 c mc (by omega) (by omega) hmc (by omega) (fun m hm => (hsM c m (by omega) (by omega)).1) hG (by omega)) (fun x660 ψ660 X4 hle660 hQ660 => ?_)
                          obtain ⟨hx660, e660, hXu660, hXv660⟩ := hQ660
                          rw [e660]
                          have hXw660 : X4.2 131 = pl := by rw [hXv660]; assumption
                          refine LW_iload i_74_663 (by rfl) ?_
                          refine LW_iceq (tg := 1070) i_74_665 (by decide) (by omega) (by omega) (fun h665 => ?_) (fun h665 => ?_)
                          · exact LW_fg (h1070 _ _ dn (by assumption) (by omega) (by omega) (by omega) (by assumption) (by omega) (by omega)) (by repeat (first | exact trivial | refine ⟨rfl, ?_⟩))
                          exfalso; omega
                        have hq600 : q30 ψ1 n c b x600 φ600 ∧ X3 = X2 := by
                          rcases hQ600 with q | q
                          · exact q
                          · exfalso; have := q.1; omega
                        obtain ⟨⟨e600, g0, g6, hI2, f86, hmv, f21, f87, hne⟩, eX⟩ := hq600
                        rw [eX]
                        obtain ⟨hG2, hS2, hY2, hR2, hNL2, hLD2, hn2, j83, j103, hP2⟩ := id hI2
                        obtain ⟨m, hm⟩ := Int.eq_ofNat_of_zero_le g0
                        subst hm
                        have hmv2 := hmv m rfl
                        refine LW_iload i_74_610 (by rfl) ?_
                        refine LW_iload i_74_612 (by rfl) ?_
                        refine LW_icne (tg := 668) i_74_614 (by decide) (by omega) (by omega) (fun h614 => ?_) (fun h614 => ?_)
                        · exfalso; omega
                        refine LW_aload_n i_74_617 (by rfl) ?_
                        refine LW_iload i_74_618 (by rfl) ?_
                        refine LW_iload i_74_620 (by rfl) ?_
                        refine LW_iconst i_74_622 ?_
                        refine LW_v3P (j := 1) i_74_623 v_74_65 (by omega) (by decide +kernel) rfl rfl (Nat.le_of_ble_eq_true rfl) (by assumption) rfl rfl (m_27 (by omega) c m 0 (by omega) (by omega) (by decide) hG2 (by omega)) (fun x623 hx623 => ?_)
                        have e623 : x623 = φ600 (2 + 13 + 8 * c + m) 40 := hx623
                        refine LW_iload i_74_626 (by rfl) ?_
                        refine LW_icne (tg := 668) i_74_628 (by decide) (by omega) (by omega) (fun h628 => ?_) (fun h628 => ?_)
                        · exfalso; omega
                        refine LW_aload_n i_74_631 (by rfl) ?_
                        refine LW_iload i_74_632 (by rfl) ?_
                        refine LW_iload i_74_634 (by rfl) ?_
                        refine LW_iconst i_74_636 ?_
                        refine LW_v3P (j := 1) i_74_637 v_74_65 (by omega) (by decide +kernel) rfl rfl (Nat.le_of_ble_eq_true rfl) (by assumption) rfl rfl (m_27 (by omega) c m 4 (by omega) (by omega) (by decide) hG2 (by omega)) (fun x637 hx637 => ?_)
                        have e637 : x637 = φ600 (2 + 13 + 8 * c + m) 44 := hx637
                        refine LW_iconst i_74_640 ?_
                        refine LW_icne (tg := 668) i_74_641 (by decide) (by omega) (by omega) (fun h641 => ?_) (fun h641 => ?_)
                        · exfalso; omega
                        refine LW_aload_n i_74_644 (by rfl) ?_
                        refine LW_iconst i_74_645 ?_
                        refine LW_v1P (j := 0) i_74_646 v_74_34 (by omega) (by decide +kernel) rfl rfl (Nat.le_of_ble_eq_true rfl) (by assumption) rfl rfl (m_15 n hn2 hn8 hS2 hY2 hG2 5 (by decide)) (fun x646 hx646 => ?_)
                        have e646 : x646 = φ600 2 87 := hx646
                        have g646 := hG2 2 87
                        refine LW_iload i_74_649 (by rfl) ?_
                        refine LW_icne (tg := 1070) i_74_651 (by decide) (by omega) (by omega) (fun h651 => ?_) (fun h651 => ?_)
                        · exact LW_fg (h1070 _ _ dn (by assumption) (by omega) (by omega) (by omega) (by assumption) (by omega) (by omega)) (by repeat (first | exact trivial | refine ⟨rfl, ?_⟩))
                        refine LW_goto (tg := 668) i_74_654 (by decide) ?_
                        exfalso; omega
                      have h670 : LW xs L0 74 670 [some (.ref 0), some (.ref 1), some (.int (jI (n : Int))), some (.int (jI dn)), some (.int (jI (i : Int))), some (.int (w)), some (.int (jI (b : Int))), some (.int (jI (p : Int))), some (.int (jI (c : Int))), some (.int (jI e9)), some (.int (jI e10)), some (.int (jI x290)), none, none, none] [] ψ1 X1 (fun x _ X' => x = 1 ∧ X'.1 ≤ 5000) := by
                        skip
                        refine LW_aload_n i_74_670 (by rfl) ?_
                        refine LW_iload i_74_671 (by rfl) ?_
                        refine LW_iconst i_74_673 ?_
                        refine LW_ishr i_74_674 ?_
                        refine LW_bipush i_74_675 (by decide) ?_
                        refine LW_t2P (j := 0) i_74_677 v_74_18 (by omega) (by decide +kernel) rfl rfl (Nat.le_of_ble_eq_true rfl) rfl (okr (by omega) rfl) (m_7 (by omega)) (fun x677 hx677 => ?_)
                        have hb677 : 0 ≤ x677 ∧ x677 < 6 := hx677.2
                        refine LW_v1I (j := 1) i_74_680 v_74_68 (by omega) (by decide +kernel) rfl rfl (Nat.le_of_ble_eq_true rfl) (by assumption) rfl rfl (m_32 hI (by omega)) (fun x680 φ680 hQ680 => ?_)
                        obtain ⟨e680, hI2, f86⟩ := hQ680
                        obtain ⟨hG2, hS2, hY2, hR2, hNL2, hLD2, hn2, j83, j103, hP2⟩ := id hI2
                        refine LW_ifge (tg := 1070) i_74_683 (by decide) (by omega) (fun h683 => ?_) (fun h683 => ?_)
                        · exact LW_fg (h1070 _ _ dn (by assumption) (by omega) (by omega) (by omega) (by assumption) (by omega) (by omega)) (by repeat (first | exact trivial | refine ⟨rfl, ?_⟩))
                        exfalso; omega
                      have h688 : LW xs L0 74 688 [some (.ref 0), some (.ref 1), some (.int (jI (n : Int))), some (.int (jI dn)), some (.int (jI (i : Int))), some (.int (w)), some (.int (jI (b : Int))), some (.int (jI (p : Int))), some (.int (jI (c : Int))), some (.int (jI e9)), some (.int (jI e10)), some (.int (jI x290)), none, none, none] [] ψ1 X1 (fun x _ X' => x = 1 ∧ X'.1 ≤ 5000) := by
                        skip
                        have h705 : ∀ e12 : Int, e12 = ψ1 (2 + 2 + b) 8 → LW xs L0 74 705 [some (.ref 0), some (.ref 1), some (.int (jI (n : Int))), some (.int (jI dn)), some (.int (jI (i : Int))), some (.int (w)), some (.int (jI (b : Int))), some (.int (jI (p : Int))), some (.int (jI (c : Int))), some (.int (jI e9)), some (.int (jI e10)), some (.int (jI x290)), none, none, none] [.int (jI e12)] ψ1 X1 (fun x _ X' => x = 1 ∧ X'.1 ≤ 5000) := by
                          intro e12 he12
                          refine LW_istore i_74_705 (by rw [l_74]; decide) (by rfl) ?_
                          refine LW_aload_n i_74_707 (by rfl) ?_
                          refine LW_iload i_74_708 (by rfl) ?_
                          refine LW_iload i_74_710 (by rfl) ?_
                          refine LW_bipush i_74_712 (by decide) ?_
                          refine LW_ishr i_74_714 ?_
                          refine LW_iconst i_74_715 ?_
                          refine LW_t2P (j := 0) i_74_716 v_74_18 (by omega) (by decide +kernel) rfl rfl (Nat.le_of_ble_eq_true rfl) rfl (oki (okr (by omega) rfl)) (m_7 (by omega)) (fun x716 hx716 => ?_)
                          have hb716 : 0 ≤ x716 ∧ x716 < 2 := hx716.2
                          have h727 : ∀ e : Int, (e = 0 ∨ e = 1) → LW xs L0 74 727 [some (.ref 0), some (.ref 1), some (.int (jI (n : Int))), some (.int (jI dn)), some (.int (jI (i : Int))), some (.int (w)), some (.int (jI (b : Int))), some (.int (jI (p : Int))), some (.int (jI (c : Int))), some (.int (jI e9)), some (.int (jI e10)), some (.int (jI x290)), some (.int (jI e12)), none, none] [.int (jI e), .int (jI (b : Int)), .ref 1] ψ1 X1 (fun x _ X' => x = 1 ∧ X'.1 ≤ 5000) := by
                            intro e he
                            refine LW_iload i_74_727 (by rfl) ?_
                            refine LW_bipush i_74_729 (by decide) ?_
                            refine LW_ishr i_74_731 ?_
                            refine LW_iconst i_74_732 ?_
                            refine LW_t2P (j := 0) i_74_733 v_74_18 (by omega) (by decide +kernel) rfl rfl (Nat.le_of_ble_eq_true rfl) rfl (oki (oki (okr (by omega) rfl))) (m_7 (by omega)) (fun x733 hx733 => ?_)
                            have hb733 : 0 ≤ x733 ∧ x733 < 3 := hx733.2
                            have h744 : ∀ e2 : Int, (e2 = 0 ∨ e2 = 1) → LW xs L0 74 744 [some (.ref 0), some (.ref 1), some (.int (jI (n : Int))), some (.int (jI dn)), some (.int (jI (i : Int))), some (.int (w)), some (.int (jI (b : Int))), some (.int (jI (p : Int))), some (.int (jI (c : Int))), some (.int (jI e9)), some (.int (jI e10)), some (.int (jI x290)), some (.int (jI e12)), none, none] [.int (jI e2), .int (jI e), .int (jI (b : Int)), .ref 1] ψ1 X1 (fun x _ X' => x = 1 ∧ X'.1 ≤ 5000) := by
                              intro e2 he2
                              refine LW_v3I (j := 2) i_74_744 v_74_71 (by omega) (by decide +kernel) rfl rfl (Nat.le_of_ble_eq_true rfl) (by assumption) rfl rfl (m_33 hI (by omega) he he2) (fun x744 φ744 hQ744 => ?_)
                              obtain ⟨e744, hI2, f86⟩ := hQ744
                              obtain ⟨hG2, hS2, hY2, hR2, hNL2, hLD2, hn2, j83, j103, hP2⟩ := id hI2
                              refine LW_iload i_74_747 (by rfl) ?_
                              refine LW_iceq (tg := 1070) i_74_749 (by decide) (by omega) (by omega) (fun h749 => ?_) (fun h749 => ?_)
                              · exact LW_fg (h1070 _ _ dn (by assumption) (by omega) (by omega) (by omega) (by assumption) (by omega) (by omega)) (by repeat (first | exact trivial | refine ⟨rfl, ?_⟩))
                              exfalso; omega
                            refine LW_ifle (tg := 743) i_74_736 (by decide) (by omega) (fun h736 => ?_) (fun h736 => ?_)
                            · refine LW_iconst i_74_743 ?_
                              exact LW_fg (h744 _ (by omega)) (by repeat (first | exact trivial | refine ⟨rfl, ?_⟩))
                            refine LW_iconst i_74_739 ?_
                            refine LW_goto (tg := 744) i_74_740 (by decide) ?_
                            exact LW_fg (h744 _ (by omega)) (by repeat (first | exact trivial | refine ⟨rfl, ?_⟩))
                          refine LW_ifne (tg := 726) i_74_719 (by decide) (by omega) (fun h719 => ?_) (fun h719 => ?_)
                          · refine LW_iconst i_74_726 ?_
                            exact LW_fg (h727 _ (by omega)) (by repeat (first | exact trivial | refine ⟨rfl, ?_⟩))
                          refine LW_iconst i_74_722 ?_
                          refine LW_goto (tg := 727) i_74_723 (by decide) ?_
                          exact LW_fg (h727 _ (by omega)) (by repeat (first | exact trivial | refine ⟨rfl, ?_⟩))
                        refine LW_aload_n i_74_688 (by rfl) ?_
                        refine LW_iload i_74_689 (by rfl) ?_
                        refine LW_bipush i_74_691 (by decide) ?_
                        refine LW_v2P (j := 1) i_74_693 v_74_37 (by omega) (by decide +kernel) rfl rfl (Nat.le_of_ble_eq_true rfl) (by assumption) rfl rfl (m_18 n hn hn8 hS hG (b) 8 (by omega) (by decide)) (fun x693 hx693 => ?_)
                        have e693 : x693 = ψ1 (2 + 2 + b) 8 := hx693
                        have g693 := hG (2 + 2 + b) 8
                        refine LW_iconst i_74_696 ?_
                        refine LW_icne (tg := 704) i_74_697 (by decide) (by omega) (by omega) (fun h697 => ?_) (fun h697 => ?_)
                        · refine LW_iconst i_74_704 ?_
                          exact LW_fg (h705 _ (by omega)) (by repeat (first | exact trivial | refine ⟨rfl, ?_⟩))
                        refine LW_iconst i_74_700 ?_
                        refine LW_goto (tg := 705) i_74_701 (by decide) ?_
                        exact LW_fg (h705 _ (by omega)) (by repeat (first | exact trivial | refine ⟨rfl, ?_⟩))
                      have h754 : LW xs L0 74 754 [some (.ref 0), some (.ref 1), some (.int (jI (n : Int))), some (.int (jI dn)), some (.int (jI (i : Int))), some (.int (w)), some (.int (jI (b : Int))), some (.int (jI (p : Int))), some (.int (jI (c : Int))), some (.int (jI e9)), some (.int (jI e10)), some (.int (jI x290)), none, none, none] [] ψ1 X1 (fun x _ X' => x = 1 ∧ X'.1 ≤ 5000) := by
                        skip
                        refine LW_iload i_74_754 (by rfl) ?_
                        refine LW_ifeq (tg := 762) i_74_756 (by decide) (by omega) (fun h756 => ?_) (fun h756 => ?_)
                        · refine LW_aload_n i_74_762 (by rfl) ?_
                          refine LW_iload i_74_763 (by rfl) ?_
                          refine LW_v1I (j := 1) i_74_765 v_74_74 (by omega) (by decide +kernel) rfl rfl (Nat.le_of_ble_eq_true rfl) (by assumption) rfl rfl (m_36 hI (by omega) (by omega)) (fun x765 φ765 hQ765 => ?_)
                          obtain ⟨e765, hI2, f86, f87, f88, f89, fop, f21⟩ := hQ765
                          obtain ⟨hG2, hS2, hY2, hR2, hNL2, hLD2, hn2, j83, j103, hP2⟩ := id hI2
                          refine LW_aload_n i_74_768 (by rfl) ?_
                          refine LW_iload i_74_769 (by rfl) ?_
                          refine LW_l2I (j := 2) i_74_771 v_74_57 (by omega) (by decide +kernel) rfl rfl (Nat.le_of_ble_eq_true rfl) (oki (okr (by omega) rfl)) rfl (m_28 c mc (by omega) (by omega) (by rw [f21]; exact hmc) (by omega) (fun m hm => (hS2.2.2.2.2.2.1 c m (by omega) (by omega)).1) hG2 (by omega)) (fun x771 ψ771 X2 hle771 hQ771 => ?_)
                          obtain ⟨hx771, e771, hXu771, hXv771⟩ := hQ771
                          rw [e771]
                          have hXw771 : X2.2 131 = pl := by rw [hXv771]; assumption
                          refine LW_icne (tg := 820) i_74_774 (by decide) (by omega) (by omega) (fun h774 => ?_) (fun h774 => ?_)
                          · exfalso; omega
                          refine LW_aload_n i_74_777 (by rfl) ?_
                          refine LW_iconst i_74_778 ?_
                          refine LW_v1P (j := 0) i_74_779 v_74_34 (by omega) (by decide +kernel) rfl rfl (Nat.le_of_ble_eq_true rfl) (by assumption) rfl rfl (m_15 n hn2 hn8 hS2 hY2 hG2 5 (by decide)) (fun x779 hx779 => ?_)
                          have e779 : x779 = φ765 2 87 := hx779
                          have g779 := hG2 2 87
                          refine LW_iload i_74_782 (by rfl) ?_
                          refine LW_icne (tg := 820) i_74_784 (by decide) (by omega) (by omega) (fun h784 => ?_) (fun h784 => ?_)
                          · exfalso; omega
                          refine LW_aload_n i_74_787 (by rfl) ?_
                          refine LW_bipush i_74_788 (by decide) ?_
                          refine LW_v1P (j := 0) i_74_790 v_74_34 (by omega) (by decide +kernel) rfl rfl (Nat.le_of_ble_eq_true rfl) (by assumption) rfl rfl (m_15 n hn2 hn8 hS2 hY2 hG2 7 (by decide)) (fun x790 hx790 => ?_)
                          have e790 : x790 = φ765 2 89 := hx790
                          have g790 := hG2 2 89
                          refine LW_ifne (tg := 820) i_74_793 (by decide) (by omega) (fun h793 => ?_) (fun h793 => ?_)
                          · exfalso; omega
                          refine LW_aload_n i_74_796 (by rfl) ?_
                          refine LW_bipush i_74_797 (by decide) ?_
                          refine LW_v1P (j := 0) i_74_799 v_74_34 (by omega) (by decide +kernel) rfl rfl (Nat.le_of_ble_eq_true rfl) (by assumption) rfl rfl (m_15 n hn2 hn8 hS2 hY2 hG2 8 (by decide)) (fun x799 hx799 => ?_)
                          have e799 : x799 = opn φ765 2 := hx799
                          have g799 := opn_bd hG2 2
                          refine LW_aload_n i_74_802 (by rfl) ?_
                          refine LW_iload i_74_803 (by rfl) ?_
                          refine LW_l2I (j := 2) i_74_805 v_74_57 (by omega) (by decide +kernel) rfl rfl (Nat.le_of_ble_eq_true rfl) (oki (okr (by omega) rfl)) rfl (m_28 c mc (by omega) (by omega) (by rw [f21]; exact hmc) (by omega) (fun m hm => (hS2.2.2.2.2.2.1 c m (by omega) (by omega)).1) hG2 (by omega)) (fun x805 ψ805 X3 hle805 hQ805 => ?_)
                          obtain ⟨hx805, e805, hXu805, hXv805⟩ := hQ805
                          rw [e805]
                          have hXw805 : X3.2 131 = pl := by rw [hXv805]; assumption
                          refine LW_icne (tg := 820) i_74_808 (by decide) (by omega) (by omega) (fun h808 => ?_) (fun h808 => ?_)
                          · exfalso; omega
                          refine LW_aload_n i_74_811 (by rfl) ?_
                          refine LW_bipush i_74_812 (by decide) ?_
                          refine LW_v1P (j := 0) i_74_814 v_74_34 (by omega) (by decide +kernel) rfl rfl (Nat.le_of_ble_eq_true rfl) (by assumption) rfl rfl (m_15 n hn2 hn8 hS2 hY2 hG2 6 (by decide)) (fun x814 hx814 => ?_)
                          have e814 : x814 = φ765 2 88 := hx814
                          have g814 := hG2 2 88
                          refine LW_ifeq (tg := 1070) i_74_817 (by decide) (by omega) (fun h817 => ?_) (fun h817 => ?_)
                          · exact LW_fg (h1070 _ _ dn (by assumption) (by omega) (by omega) (by omega) (by assumption) (by omega) (by omega)) (by repeat (first | exact trivial | refine ⟨rfl, ?_⟩))
                          exfalso; omega
                        refine LW_goto (tg := 1070) i_74_759 (by decide) ?_
                        exact LW_fg (h1070 _ _ dn (by assumption) (by omega) (by omega) (by omega) (by assumption) (by omega) (by omega)) (by repeat (first | exact trivial | refine ⟨rfl, ?_⟩))
                      have h822 : LW xs L0 74 822 [some (.ref 0), some (.ref 1), some (.int (jI (n : Int))), some (.int (jI dn)), some (.int (jI (i : Int))), some (.int (w)), some (.int (jI (b : Int))), some (.int (jI (p : Int))), some (.int (jI (c : Int))), some (.int (jI e9)), some (.int (jI e10)), some (.int (jI x290)), none, none, none] [] ψ1 X1 (fun x _ X' => x = 1 ∧ X'.1 ≤ 5000) := by
                        skip
                        refine LW_iload i_74_822 (by rfl) ?_
                        refine LW_ifne (tg := 830) i_74_824 (by decide) (by omega) (fun h824 => ?_) (fun h824 => ?_)
                        · have h845 : ∀ e12 : Int, e12 = ψ1 2 88 → LW xs L0 74 845 [some (.ref 0), some (.ref 1), some (.int (jI (n : Int))), some (.int (jI dn)), some (.int (jI (i : Int))), some (.int (w)), some (.int (jI (b : Int))), some (.int (jI (p : Int))), some (.int (jI (c : Int))), some (.int (jI e9)), some (.int (jI e10)), some (.int (jI x290)), none, none, none] [.int (jI e12)] ψ1 X1 (fun x _ X' => x = 1 ∧ X'.1 ≤ 5000) := by
                            intro e12 he12
                            refine LW_istore i_74_845 (by rw [l_74]; decide) (by rfl) ?_
                            have h863 : ∀ e13 : Int, (e13 = 0 ∨ e13 = 1) → LW xs L0 74 863 [some (.ref 0), some (.ref 1), some (.int (jI (n : Int))), some (.int (jI dn)), some (.int (jI (i : Int))), some (.int (w)), some (.int (jI (b : Int))), some (.int (jI (p : Int))), some (.int (jI (c : Int))), some (.int (jI e9)), some (.int (jI e10)), some (.int (jI x290)), some (.int (jI e12)), none, none] [.int (jI e13)] ψ1 X1 (fun x _ X' => x = 1 ∧ X'.1 ≤ 5000) := by
                              intro e13 he13
                              refine LW_istore i_74_863 (by rw [l_74]; decide) (by rfl) ?_
                              refine LW_aload_n i_74_865 (by rfl) ?_
                              refine LW_iload i_74_866 (by rfl) ?_
                              refine LW_v1I (j := 1) i_74_868 v_74_77 (by omega) (by decide +kernel) rfl rfl (Nat.le_of_ble_eq_true rfl) (by assumption) rfl rfl (m_38 hI (by omega) he13) (fun x868 φ868 hQ868 => ?_)
                              obtain ⟨e868, hI2, f86, f88⟩ := hQ868
                              obtain ⟨hG2, hS2, hY2, hR2, hNL2, hLD2, hn2, j83, j103, hP2⟩ := id hI2
                              refine LW_iload i_74_871 (by rfl) ?_
                              refine LW_icne (tg := 895) i_74_873 (by decide) (by omega) (by omega) (fun h873 => ?_) (fun h873 => ?_)
                              · exfalso; omega
                              refine LW_aload_n i_74_876 (by rfl) ?_
                              refine LW_bipush i_74_877 (by decide) ?_
                              refine LW_v1P (j := 0) i_74_879 v_74_34 (by omega) (by decide +kernel) rfl rfl (Nat.le_of_ble_eq_true rfl) (by assumption) rfl rfl (m_15 n hn2 hn8 hS2 hY2 hG2 6 (by decide)) (fun x879 hx879 => ?_)
                              have e879 : x879 = φ868 2 88 := hx879
                              have g879 := hG2 2 88
                              refine LW_iload i_74_882 (by rfl) ?_
                              refine LW_ifeq (tg := 891) i_74_884 (by decide) (by omega) (fun h884 => ?_) (fun h884 => ?_)
                              · refine LW_iconst i_74_891 ?_
                                refine LW_iceq (tg := 1070) i_74_892 (by decide) (by omega) (by omega) (fun h892 => ?_) (fun h892 => ?_)
                                · exact LW_fg (h1070 _ _ dn (by assumption) (by omega) (by omega) (by omega) (by assumption) (by omega) (by omega)) (by repeat (first | exact trivial | refine ⟨rfl, ?_⟩))
                                exfalso; omega
                              refine LW_iconst i_74_887 ?_
                              refine LW_goto (tg := 892) i_74_888 (by decide) ?_
                              refine LW_iceq (tg := 1070) i_74_892 (by decide) (by omega) (by omega) (fun h892 => ?_) (fun h892 => ?_)
                              · exact LW_fg (h1070 _ _ dn (by assumption) (by omega) (by omega) (by omega) (by assumption) (by omega) (by omega)) (by repeat (first | exact trivial | refine ⟨rfl, ?_⟩))
                              exfalso; omega
                            refine LW_iload i_74_847 (by rfl) ?_
                            refine LW_iconst i_74_849 ?_
                            refine LW_ishr i_74_850 ?_
                            refine LW_iconst i_74_851 ?_
                            refine LW_t2P (j := 0) i_74_852 v_74_18 (by omega) (by decide +kernel) rfl rfl (Nat.le_of_ble_eq_true rfl) rfl rfl (m_7 (by omega)) (fun x852 hx852 => ?_)
                            have hb852 : 0 ≤ x852 ∧ x852 < 2 := hx852.2
                            refine LW_ifne (tg := 862) i_74_855 (by decide) (by omega) (fun h855 => ?_) (fun h855 => ?_)
                            · refine LW_iconst i_74_862 ?_
                              exact LW_fg (h863 _ (by omega)) (by repeat (first | exact trivial | refine ⟨rfl, ?_⟩))
                            refine LW_iconst i_74_858 ?_
                            refine LW_goto (tg := 863) i_74_859 (by decide) ?_
                            exact LW_fg (h863 _ (by omega)) (by repeat (first | exact trivial | refine ⟨rfl, ?_⟩))
                          refine LW_aload_n i_74_830 (by rfl) ?_
                          refine LW_bipush i_74_831 (by decide) ?_
                          refine LW_v1P (j := 0) i_74_833 v_74_34 (by omega) (by decide +kernel) rfl rfl (Nat.le_of_ble_eq_true rfl) (by assumption) rfl rfl (m_15 n hn hn8 hS hY hG 6 (by decide)) (fun x833 hx833 => ?_)
                          have e833 : x833 = ψ1 2 88 := hx833
                          have g833 := hG 2 88
                          refine LW_iconst i_74_836 ?_
                          refine LW_icne (tg := 844) i_74_837 (by decide) (by omega) (by omega) (fun h837 => ?_) (fun h837 => ?_)
                          · refine LW_iconst i_74_844 ?_
                            exact LW_fg (h845 _ (by omega)) (by repeat (first | exact trivial | refine ⟨rfl, ?_⟩))
                          refine LW_iconst i_74_840 ?_
                          refine LW_goto (tg := 845) i_74_841 (by decide) ?_
                          exact LW_fg (h845 _ (by omega)) (by repeat (first | exact trivial | refine ⟨rfl, ?_⟩))
                        refine LW_goto (tg := 1070) i_74_827 (by decide) ?_
                        exact LW_fg (h1070 _ _ dn (by assumption) (by omega) (by omega) (by omega) (by assumption) (by omega) (by omega)) (by repeat (first | exact trivial | refine ⟨rfl, ?_⟩))
                      have h897 : LW xs L0 74 897 [some (.ref 0), some (.ref 1), some (.int (jI (n : Int))), some (.int (jI dn)), some (.int (jI (i : Int))), some (.int (w)), some (.int (jI (b : Int))), some (.int (jI (p : Int))), some (.int (jI (c : Int))), some (.int (jI e9)), some (.int (jI e10)), some (.int (jI x290)), none, none, none] [] ψ1 X1 (fun x _ X' => x = 1 ∧ X'.1 ≤ 5000) := by
                        skip
                        refine LW_iload i_74_897 (by rfl) ?_
                        refine LW_ifeq (tg := 1070) i_74_899 (by decide) (by omega) (fun h899 => ?_) (fun h899 => ?_)
                        · exact LW_fg (h1070 _ _ dn (by assumption) (by omega) (by omega) (by omega) (by assumption) (by omega) (by omega)) (by repeat (first | exact trivial | refine ⟨rfl, ?_⟩))
                        refine LW_iload i_74_902 (by rfl) ?_
                        refine LW_bipush i_74_904 (by decide) ?_
                        refine LW_ishr i_74_906 ?_
                        refine LW_iconst i_74_907 ?_
                        refine LW_t2P (j := 0) i_74_908 v_74_18 (by omega) (by decide +kernel) rfl rfl (Nat.le_of_ble_eq_true rfl) rfl rfl (m_7 (by omega)) (fun x908 hx908 => ?_)
                        have hb908 : 0 ≤ x908 ∧ x908 < 2 := hx908.2
                        refine LW_ifne (tg := 917) i_74_911 (by decide) (by omega) (fun h911 => ?_) (fun h911 => ?_)
                        · refine LW_aload_n i_74_917 (by rfl) ?_
                          refine LW_bipush i_74_918 (by decide) ?_
                          refine LW_v1P (j := 0) i_74_920 v_74_34 (by omega) (by decide +kernel) rfl rfl (Nat.le_of_ble_eq_true rfl) (by assumption) rfl rfl (m_15 n hn hn8 hS hY hG 8 (by decide)) (fun x920 hx920 => ?_)
                          have e920 : x920 = opn ψ1 2 := hx920
                          have g920 := opn_bd hG 2
                          refine LW_istore i_74_923 (by rw [l_74]; decide) (by rfl) ?_
                          refine LW_aload_n i_74_925 (by rfl) ?_
                          refine LW_v0I (j := 1) i_74_926 v_74_81 (by omega) (by decide +kernel) rfl rfl (Nat.le_of_ble_eq_true rfl) (by assumption) rfl rfl (m_40 hI (by omega)) (fun x926 φ926 hQ926 => ?_)
                          obtain ⟨e926, hI2, f86, f87⟩ := hQ926
                          obtain ⟨hG2, hS2, hY2, hR2, hNL2, hLD2, hn2, j83, j103, hP2⟩ := id hI2
                          refine LW_iload i_74_929 (by rfl) ?_
                          refine LW_icne (tg := 943) i_74_931 (by decide) (by omega) (by omega) (fun h931 => ?_) (fun h931 => ?_)
                          · exfalso; omega
                          refine LW_aload_n i_74_934 (by rfl) ?_
                          refine LW_iconst i_74_935 ?_
                          refine LW_v1P (j := 0) i_74_936 v_74_34 (by omega) (by decide +kernel) rfl rfl (Nat.le_of_ble_eq_true rfl) (by assumption) rfl rfl (m_15 n hn2 hn8 hS2 hY2 hG2 5 (by decide)) (fun x936 hx936 => ?_)
                          have e936 : x936 = φ926 2 87 := hx936
                          have g936 := hG2 2 87
                          refine LW_iconst i_74_939 ?_
                          refine LW_iceq (tg := 1070) i_74_940 (by decide) (by omega) (by omega) (fun h940 => ?_) (fun h940 => ?_)
                          · exact LW_fg (h1070 _ _ dn (by assumption) (by omega) (by omega) (by omega) (by assumption) (by omega) (by omega)) (by repeat (first | exact trivial | refine ⟨rfl, ?_⟩))
                          exfalso; omega
                        refine LW_goto (tg := 1070) i_74_914 (by decide) ?_
                        exact LW_fg (h1070 _ _ dn (by assumption) (by omega) (by omega) (by omega) (by assumption) (by omega) (by omega)) (by repeat (first | exact trivial | refine ⟨rfl, ?_⟩))
                      have h945 : LW xs L0 74 945 [some (.ref 0), some (.ref 1), some (.int (jI (n : Int))), some (.int (jI dn)), some (.int (jI (i : Int))), some (.int (w)), some (.int (jI (b : Int))), some (.int (jI (p : Int))), some (.int (jI (c : Int))), some (.int (jI e9)), some (.int (jI e10)), some (.int (jI x290)), none, none, none] [] ψ1 X1 (fun x _ X' => x = 1 ∧ X'.1 ≤ 5000) := by
                        skip
                        have h962 : ∀ e12 : Int, e12 = ψ1 (2 + 2 + b) 10 → LW xs L0 74 962 [some (.ref 0), some (.ref 1), some (.int (jI (n : Int))), some (.int (jI dn)), some (.int (jI (i : Int))), some (.int (w)), some (.int (jI (b : Int))), some (.int (jI (p : Int))), some (.int (jI (c : Int))), some (.int (jI e9)), some (.int (jI e10)), some (.int (jI x290)), none, none, none] [.int (jI e12)] ψ1 X1 (fun x _ X' => x = 1 ∧ X'.1 ≤ 5000) := by
                          intro e12 he12
                          refine LW_istore i_74_962 (by rw [l_74]; decide) (by rfl) ?_
                          refine LW_aload_n i_74_964 (by rfl) ?_
                          refine LW_iload i_74_965 (by rfl) ?_
                          refine LW_iload i_74_967 (by rfl) ?_
                          refine LW_bipush i_74_969 (by decide) ?_
                          refine LW_ishr i_74_971 ?_
                          refine LW_iconst i_74_972 ?_
                          refine LW_t2P (j := 0) i_74_973 v_74_18 (by omega) (by decide +kernel) rfl rfl (Nat.le_of_ble_eq_true rfl) rfl (oki (okr (by omega) rfl)) (m_7 (by omega)) (fun x973 hx973 => ?_)
                          have hb973 : 0 ≤ x973 ∧ x973 < 2 := hx973.2
                          have h984 : ∀ e : Int, (e = 1 ∧ x973 = 0 ∨ e = 0 ∧ ¬ x973 = 0) → LW xs L0 74 984 [some (.ref 0), some (.ref 1), some (.int (jI (n : Int))), some (.int (jI dn)), some (.int (jI (i : Int))), some (.int (w)), some (.int (jI (b : Int))), some (.int (jI (p : Int))), some (.int (jI (c : Int))), some (.int (jI e9)), some (.int (jI e10)), some (.int (jI x290)), some (.int (jI e12)), none, none] [.int (jI e), .int (jI (b : Int)), .ref 1] ψ1 X1 (fun x _ X' => x = 1 ∧ X'.1 ≤ 5000) := by
                            intro e he
                            refine LW_v2I (j := 2) i_74_984 v_74_85 (by omega) (by decide +kernel) rfl rfl (Nat.le_of_ble_eq_true rfl) (by assumption) rfl rfl (m_41 hI (by omega) (by omega)) (fun x984 φ984 hQ984 => ?_)
                            obtain ⟨e984, hI2, f86, f10⟩ := hQ984
                            obtain ⟨hG2, hS2, hY2, hR2, hNL2, hLD2, hn2, j83, j103, hP2⟩ := id hI2
                            refine LW_iload i_74_987 (by rfl) ?_
                            refine LW_icne (tg := 1020) i_74_989 (by decide) (by omega) (by omega) (fun h989 => ?_) (fun h989 => ?_)
                            · exfalso; omega
                            refine LW_aload_n i_74_992 (by rfl) ?_
                            refine LW_iload i_74_993 (by rfl) ?_
                            refine LW_bipush i_74_995 (by decide) ?_
                            refine LW_v2P (j := 1) i_74_997 v_74_37 (by omega) (by decide +kernel) rfl rfl (Nat.le_of_ble_eq_true rfl) (by assumption) rfl rfl (m_18 n hn2 hn8 hS2 hG2 (b) 10 (by omega) (by decide)) (fun x997 hx997 => ?_)
                            have e997 : x997 = φ984 (2 + 2 + b) 10 := hx997
                            have g997 := hG2 (2 + 2 + b) 10
                            refine LW_iload i_74_1000 (by rfl) ?_
                            refine LW_bipush i_74_1002 (by decide) ?_
                            refine LW_ishr i_74_1004 ?_
                            refine LW_iconst i_74_1005 ?_
                            refine LW_t2P (j := 0) i_74_1006 v_74_18 (by omega) (by decide +kernel) rfl rfl (Nat.le_of_ble_eq_true rfl) rfl rfl (m_7 (by omega)) (fun x1006 hx1006 => ?_)
                            have hb1006 : 0 ≤ x1006 ∧ x1006 < 2 := hx1006.2
                            have h1006e : x1006 = x973 := by rw [hx1006.1, hx973.1]
                            refine LW_ifne (tg := 1016) i_74_1009 (by decide) (by omega) (fun h1009 => ?_) (fun h1009 => ?_)
                            · refine LW_iconst i_74_1016 ?_
                              refine LW_iceq (tg := 1070) i_74_1017 (by decide) (by omega) (by omega) (fun h1017 => ?_) (fun h1017 => ?_)
                              · exact LW_fg (h1070 _ _ dn (by assumption) (by omega) (by omega) (by omega) (by assumption) (by omega) (by omega)) (by repeat (first | exact trivial | refine ⟨rfl, ?_⟩))
                              exfalso; omega
                            refine LW_iconst i_74_1012 ?_
                            refine LW_goto (tg := 1017) i_74_1013 (by decide) ?_
                            refine LW_iceq (tg := 1070) i_74_1017 (by decide) (by omega) (by omega) (fun h1017 => ?_) (fun h1017 => ?_)
                            · exact LW_fg (h1070 _ _ dn (by assumption) (by omega) (by omega) (by omega) (by assumption) (by omega) (by omega)) (by repeat (first | exact trivial | refine ⟨rfl, ?_⟩))
                            exfalso; omega
                          refine LW_ifne (tg := 983) i_74_976 (by decide) (by omega) (fun h976 => ?_) (fun h976 => ?_)
                          · refine LW_iconst i_74_983 ?_
                            exact LW_fg (h984 _ (by omega)) (by repeat (first | exact trivial | refine ⟨rfl, ?_⟩))
                          refine LW_iconst i_74_979 ?_
                          refine LW_goto (tg := 984) i_74_980 (by decide) ?_
                          exact LW_fg (h984 _ (by omega)) (by repeat (first | exact trivial | refine ⟨rfl, ?_⟩))
                        refine LW_aload_n i_74_945 (by rfl) ?_
                        refine LW_iload i_74_946 (by rfl) ?_
                        refine LW_bipush i_74_948 (by decide) ?_
                        refine LW_v2P (j := 1) i_74_950 v_74_37 (by omega) (by decide +kernel) rfl rfl (Nat.le_of_ble_eq_true rfl) (by assumption) rfl rfl (m_18 n hn hn8 hS hG (b) 10 (by omega) (by decide)) (fun x950 hx950 => ?_)
                        have e950 : x950 = ψ1 (2 + 2 + b) 10 := hx950
                        have g950 := hG (2 + 2 + b) 10
                        refine LW_iconst i_74_953 ?_
                        refine LW_icne (tg := 961) i_74_954 (by decide) (by omega) (by omega) (fun h954 => ?_) (fun h954 => ?_)
                        · refine LW_iconst i_74_961 ?_
                          exact LW_fg (h962 _ (by omega)) (by repeat (first | exact trivial | refine ⟨rfl, ?_⟩))
                        refine LW_iconst i_74_957 ?_
                        refine LW_goto (tg := 962) i_74_958 (by decide) ?_
                        exact LW_fg (h962 _ (by omega)) (by repeat (first | exact trivial | refine ⟨rfl, ?_⟩))
                      have h1022 : LW xs L0 74 1022 [some (.ref 0), some (.ref 1), some (.int (jI (n : Int))), some (.int (jI dn)), some (.int (jI (i : Int))), some (.int (w)), some (.int (jI (b : Int))), some (.int (jI (p : Int))), some (.int (jI (c : Int))), some (.int (jI e9)), some (.int (jI e10)), some (.int (jI x290)), none, none, none] [] ψ1 X1 (fun x _ X' => x = 1 ∧ X'.1 ≤ 5000) := by
                        skip
                        refine LW_iconst i_74_1022 ?_
                        refine LW_iload i_74_1023 (by rfl) ?_
                        refine LW_iconst i_74_1025 ?_
                        refine LW_ishr i_74_1026 ?_
                        refine LW_bipush i_74_1027 (by decide) ?_
                        refine LW_t2P (j := 0) i_74_1029 v_74_18 (by omega) (by decide +kernel) rfl rfl (Nat.le_of_ble_eq_true rfl) rfl rfl (m_7 (by omega)) (fun x1029 hx1029 => ?_)
                        have hb1029 : 0 ≤ x1029 ∧ x1029 < 9 := hx1029.2
                        refine LW_iadd i_74_1032 ?_
                        obtain ⟨N, hN9⟩ := Int.eq_ofNat_of_zero_le (show 0 ≤ 1 + x1029 by omega)
                        rw [hN9]
                        refine LW_istore i_74_1033 (by rw [l_74]; decide) (by rfl) ?_
                        refine LW_iconst i_74_1035 ?_
                        refine LW_istore i_74_1036 (by rw [l_74]; decide) (by rfl) ?_
                        refine LW_fg (L' := [some (.ref 0), some (.ref 1), some (.int (jI (n : Int))), some (.int (jI dn)), some (.int (jI (i : Int))), some (.int (w)), some (.int (jI (b : Int))), some (.int (jI (p : Int))), some (.int (jI (c : Int))), some (.int (jI e9)), some (.int (jI e10)), some (.int (jI x290)), some (.int (jI (N : Int))), some (.int (jI ((0 : Nat) : Int))), none]) ?_ (by repeat (first | exact trivial | refine ⟨rfl, ?_⟩))
                        refine LW_for (σ := Int) (N := N) (I := fun k dn2 φ X2 => INV φ n ∧ φ 2 86 ≤ 9 * (i : Int) + k ∧ X1.1 ≤ X2.1 ∧ X2.1 ≤ X1.1 + 4 * k ∧ X2.2 131 = pl ∧ 0 ≤ dn2 ∧ dn2 ≤ dn + 6 * (k : Int)) (Lf := fun k dn2 => [some (.ref 0), some (.ref 1), some (.int (jI (n : Int))), some (.int (jI dn2)), some (.int (jI (i : Int))), some (.int (w)), some (.int (jI (b : Int))), some (.int (jI (p : Int))), some (.int (jI (c : Int))), some (.int (jI e9)), some (.int (jI e10)), some (.int (jI x290)), some (.int (jI (N : Int))), some (.int (jI (k : Int))), none]) ?_ ?_ N 0 dn ψ1 X1 (by omega) ?_
                        · intro k dn2 φ X2 hk hJ hK2
                          obtain ⟨hI2, h862, hXa2, hXb2, hXp2, hdn0, hdn1⟩ := hJ
                          refine LW_iload i_74_1038 (by rfl) ?_
                          refine LW_iload i_74_1040 (by rfl) ?_
                          refine LW_icge (tg := 1070) i_74_1042 (by decide) (by omega) (by omega) (fun h1042 => ?_) (fun h1042 => ?_)
                          · exfalso; omega
                          refine LW_aload_n i_74_1045 (by rfl) ?_
                          refine LW_iload_n i_74_1046 (by rfl) ?_
                          refine LW_l2I (j := 15) i_74_1047 v_74_89 (by omega) (by decide +kernel) rfl rfl (Nat.le_of_ble_eq_true rfl) (oki (okr (by omega) rfl)) rfl (m_56 hI2 (by omega) (by omega) hXp2) (fun x1047 φ3 X3 hle1047 hQ1047 => ?_)
                          obtain ⟨g0, g6, hI3, f86, hX3, hXp3⟩ := hQ1047
                          refine LW_istore i_74_1050 (by rw [l_74]; decide) (by rfl) ?_
                          refine LW_iload i_74_1052 (by rfl) ?_
                          refine LW_ifge (tg := 1059) i_74_1054 (by decide) (by omega) (fun h1054 => ?_) (fun h1054 => ?_)
                          · refine LW_iload_n i_74_1059 (by rfl) ?_
                            refine LW_iload i_74_1060 (by rfl) ?_
                            refine LW_iadd i_74_1062 ?_
                            refine LW_istore_n i_74_1063 (by rw [l_74]; decide) (by rfl) ?_
                            refine LW_iinc i_74_1064 (by rfl) (by rw [l_74]; decide) (by rfl) ?_
                            refine LW_goto (tg := 1038) i_74_1067 (by decide) ?_
                            exact LW_fg (hK2 (dn2 + x1047) _ _ ⟨hI3, by omega, by omega, by omega, hXp3, by omega, by omega⟩) (by repeat (first | exact trivial | refine ⟨rfl, ?_⟩))
                          exfalso; omega
                        · intro dn2 φ X2 hJ
                          obtain ⟨hI2, h862, hXa2, hXb2, hXp2, hdn0, hdn1⟩ := hJ
                          refine LW_iload i_74_1038 (by rfl) ?_
                          refine LW_iload i_74_1040 (by rfl) ?_
                          refine LW_icge (tg := 1070) i_74_1042 (by decide) (by omega) (by omega) (fun h1042 => ?_) (fun h1042 => ?_)
                          · exact LW_fg (h1070 _ _ dn2 (by assumption) (by omega) (by omega) (by omega) (by assumption) (by omega) (by omega)) (by repeat (first | exact trivial | refine ⟨rfl, ?_⟩))
                          exfalso; omega
                        · exact ⟨hI, by omega, Nat.le_refl _, by omega, hXp, by omega, by omega⟩
                      refine LW_iload i_74_295 (by rfl) ?_
                      refine LW_bipush i_74_297 (by decide) ?_
                      refine LW_t2P (j := 0) i_74_299 v_74_18 (by omega) (by decide +kernel) rfl rfl (Nat.le_of_ble_eq_true rfl) rfl rfl (m_7 (by omega)) (fun x299 hx299 => ?_)
                      have hb299 : 0 ≤ x299 ∧ x299 < 18 := hx299.2
                      have h299 : x299 = 0 ∨ x299 = 1 ∨ x299 = 2 ∨ x299 = 3 ∨ x299 = 4 ∨ x299 = 5 ∨ x299 = 6 ∨ x299 = 7 ∨ x299 = 8 ∨ x299 = 9 ∨ x299 = 10 ∨ x299 = 11 ∨ x299 = 12 ∨ x299 = 13 ∨ x299 = 14 ∨ x299 = 15 ∨ x299 = 16 ∨ x299 = 17 := by omega
                      rcases h299 with rfl | rfl | rfl | rfl | rfl | rfl | rfl | rfl | rfl | rfl | rfl | rfl | rfl | rfl | rfl | rfl | rfl | rfl
                      · refine LW_tsw (tg := 376) i_74_302 (by omega) (by decide) ?_
                        exact LW_fg h376 (by repeat (first | exact trivial | refine ⟨rfl, ?_⟩))
                      · refine LW_tsw (tg := 376) i_74_302 (by omega) (by decide) ?_
                        exact LW_fg h376 (by repeat (first | exact trivial | refine ⟨rfl, ?_⟩))
                      · refine LW_tsw (tg := 376) i_74_302 (by omega) (by decide) ?_
                        exact LW_fg h376 (by repeat (first | exact trivial | refine ⟨rfl, ?_⟩))
                      · refine LW_tsw (tg := 445) i_74_302 (by omega) (by decide) ?_
                        exact LW_fg h445 (by repeat (first | exact trivial | refine ⟨rfl, ?_⟩))
                      · refine LW_tsw (tg := 489) i_74_302 (by omega) (by decide) ?_
                        exact LW_fg h489 (by repeat (first | exact trivial | refine ⟨rfl, ?_⟩))
                      · refine LW_tsw (tg := 557) i_74_302 (by omega) (by decide) ?_
                        exact LW_fg h557 (by repeat (first | exact trivial | refine ⟨rfl, ?_⟩))
                      · refine LW_tsw (tg := 557) i_74_302 (by omega) (by decide) ?_
                        exact LW_fg h557 (by repeat (first | exact trivial | refine ⟨rfl, ?_⟩))
                      · refine LW_tsw (tg := 557) i_74_302 (by omega) (by decide) ?_
                        exact LW_fg h557 (by repeat (first | exact trivial | refine ⟨rfl, ?_⟩))
                      · refine LW_tsw (tg := 670) i_74_302 (by omega) (by decide) ?_
                        exact LW_fg h670 (by repeat (first | exact trivial | refine ⟨rfl, ?_⟩))
                      · refine LW_tsw (tg := 688) i_74_302 (by omega) (by decide) ?_
                        exact LW_fg h688 (by repeat (first | exact trivial | refine ⟨rfl, ?_⟩))
                      · refine LW_tsw (tg := 754) i_74_302 (by omega) (by decide) ?_
                        exact LW_fg h754 (by repeat (first | exact trivial | refine ⟨rfl, ?_⟩))
                      · refine LW_tsw (tg := 754) i_74_302 (by omega) (by decide) ?_
                        exact LW_fg h754 (by repeat (first | exact trivial | refine ⟨rfl, ?_⟩))
                      · refine LW_tsw (tg := 822) i_74_302 (by omega) (by decide) ?_
                        exact LW_fg h822 (by repeat (first | exact trivial | refine ⟨rfl, ?_⟩))
                      · refine LW_tsw (tg := 897) i_74_302 (by omega) (by decide) ?_
                        exact LW_fg h897 (by repeat (first | exact trivial | refine ⟨rfl, ?_⟩))
                      · refine LW_tsw (tg := 945) i_74_302 (by omega) (by decide) ?_
                        exact LW_fg h945 (by repeat (first | exact trivial | refine ⟨rfl, ?_⟩))
                      · refine LW_tsw (tg := 1022) i_74_302 (by omega) (by decide) ?_
                        exact LW_fg h1022 (by repeat (first | exact trivial | refine ⟨rfl, ?_⟩))
                      · refine LW_tsw (tg := 1022) i_74_302 (by omega) (by decide) ?_
                        exact LW_fg h1022 (by repeat (first | exact trivial | refine ⟨rfl, ?_⟩))
                      · refine LW_tsw (tg := 1022) i_74_302 (by omega) (by decide) ?_
                        exact LW_fg h1022 (by repeat (first | exact trivial | refine ⟨rfl, ?_⟩))
                    refine LW_iload i_74_264 (by rfl) ?_
                    refine LW_ifne (tg := 283) i_74_266 (by decide) (by omega) (fun h266 => ?_) (fun h266 => ?_)
                    · refine LW_iconst i_74_283 ?_
                      exact LW_fg (h284 _ (by omega)) (by repeat (first | exact trivial | refine ⟨rfl, ?_⟩))
                    refine LW_aload_n i_74_269 (by rfl) ?_
                    refine LW_iload i_74_270 (by rfl) ?_
                    refine LW_iconst i_74_272 ?_
                    refine LW_v2P (j := 1) i_74_273 v_74_37 (by omega) (by decide +kernel) rfl rfl (Nat.le_of_ble_eq_true rfl) (by assumption) rfl rfl (m_18 n hn hn8 hS hG (b) 2 (by omega) (by decide)) (fun x273 hx273 => ?_)
                    have e273 : x273 = ψ1 (2 + 2 + b) 3 := hx273
                    have g273 := hG (2 + 2 + b) 3
                    refine LW_ifne (tg := 283) i_74_276 (by decide) (by omega) (fun h276 => ?_) (fun h276 => ?_)
                    · refine LW_iconst i_74_283 ?_
                      exact LW_fg (h284 _ (by omega)) (by repeat (first | exact trivial | refine ⟨rfl, ?_⟩))
                    refine LW_iconst i_74_279 ?_
                    refine LW_goto (tg := 284) i_74_280 (by decide) ?_
                    exact LW_fg (h284 _ (by omega)) (by repeat (first | exact trivial | refine ⟨rfl, ?_⟩))
                  refine LW_aload_n i_74_249 (by rfl) ?_
                  refine LW_iconst i_74_250 ?_
                  refine LW_v1P (j := 0) i_74_251 v_74_34 (by omega) (by decide +kernel) rfl rfl (Nat.le_of_ble_eq_true rfl) (by assumption) rfl rfl (m_15 n hn hn8 hS hY hG 5 (by decide)) (fun x251 hx251 => ?_)
                  have e251 : x251 = ψ1 2 87 := hx251
                  have g251 := hG 2 87
                  refine LW_iflt (tg := 261) i_74_254 (by decide) (by omega) (fun h254 => ?_) (fun h254 => ?_)
                  · refine LW_iconst i_74_261 ?_
                    exact LW_fg (h262 _ (by omega)) (by repeat (first | exact trivial | refine ⟨rfl, ?_⟩))
                  refine LW_iconst i_74_257 ?_
                  refine LW_goto (tg := 262) i_74_258 (by decide) ?_
                  exact LW_fg (h262 _ (by omega)) (by repeat (first | exact trivial | refine ⟨rfl, ?_⟩))
                refine LW_aload_n i_74_196 (by rfl) ?_
                refine LW_bipush i_74_197 (by decide) ?_
                refine LW_iload i_74_199 (by rfl) ?_
                refine LW_bipush i_74_201 (by decide) ?_
                refine LW_iremI i_74_203 (by omega) (by omega) (by omega) (by omega) ?_
                refine LW_iadd i_74_204 ?_
                refine LW_t2P (j := 0) i_74_205 v_74_12 (by omega) (by decide +kernel) rfl rfl (Nat.le_of_ble_eq_true rfl) (oki (okr (by omega) rfl)) rfl (m_6 hL (by omega)) (fun x205 hx205 => ?_)
                refine LW_iload i_74_208 (by rfl) ?_
                refine LW_bipush i_74_210 (by decide) ?_
                refine LW_idivI i_74_212 (by omega) (by omega) (by omega) (by omega) ?_
                refine LW_iconst i_74_213 ?_
                refine LW_imul i_74_214 ?_
                refine LW_ishr i_74_215 ?_
                refine LW_istore i_74_216 (by rw [l_74]; decide) (by rfl) ?_
                exact LW_fg (h218 _) (by repeat (first | exact trivial | refine ⟨rfl, ?_⟩))
              · intro dn ψd0 X1 hJ
                obtain ⟨hI, h86, hXa, hXb, hXp, hd0, hd1, hES⟩ := hJ
                obtain ⟨ω, hIω, hω86, hsq, hrunω⟩ := hES (by decide)
                obtain ⟨o, ψd, ⟨d, rfl, hqd⟩, hrd⟩ := m_73 (xs := xs) (L0 := L0) hI (by omega)
                refine LW_iload i_74_189 (by rfl) ?_
                refine LW_bipush i_74_191 (by decide) ?_
                refine LW_icge (tg := 1086) i_74_193 (by decide) (by omega) (by omega) (fun h193 => ?_) (fun h193 => ?_)
                · refine LW_aload_n i_74_1086 (by rfl) ?_
                  refine LW_dig i_74_1087 (by omega) ⟨f0, by rw [hXp]; exact hpf⟩ hrd (fun X2 hX2 hY2 => ?_)
                  obtain ⟨f2, hY2⟩ := hY2
                  refine LW_lstore i_74_1090 (by rw [l_74]; decide) (by rfl) ?_
                  refine LW_aload_n i_74_1092 (by rfl) ?_
                  refine LW_iload_n i_74_1093 (by rfl) ?_
                  refine LW_l2I (j := 9) i_74_1094 v_74_92 (by omega) (by decide +kernel) rfl rfl (Nat.le_of_ble_eq_true rfl) (oki (okr (by omega) rfl)) rfl (hrunω _ ψd X2 (jSq_trans hsq hqd) (by omega) rfl) (fun x1094 φ3 X3 hle1094 hQ1094 => ?_)
                  obtain ⟨hx1094, hφ3, hXb3, hXq3⟩ := hQ1094
                  rw [hφ3]
                  refine LW_ifeq (tg := 1118) i_74_1097 (by decide) (by omega) (fun h1097 => ?_) (fun h1097 => ?_)
                  · exfalso; omega
                  refine LW_iload_n i_74_1100 (by rfl) ?_
                  refine LW_iflt (tg := 1118) i_74_1101 (by decide) (by omega) (fun h1101 => ?_) (fun h1101 => ?_)
                  · exfalso; omega
                  refine LW_aload_n i_74_1104 (by rfl) ?_
                  refine LW_dig i_74_1105 (by omega) ⟨f2, by rw [hXq3, hY2]⟩ hrd (fun X4 hX4 hY4 => ?_)
                  refine LW_lload i_74_1108 (by rfl) ?_
                  refine LW_lcmp i_74_1110 ?_
                  rw [lg_cmp_self]
                  refine LW_ifne (tg := 1118) i_74_1111 (by decide) (by omega) (fun h1111 => ?_) (fun h1111 => ?_)
                  · exfalso; omega
                  refine LW_iconst i_74_1114 ?_
                  refine LW_goto (tg := 1119) i_74_1115 (by decide) ?_
                  refine LW_zret i_74_1119 r_74 (by omega) ?_
                  exact ⟨rfl, by omega⟩
                exfalso; omega
              · exact ⟨SI_INV hSIc, by omega, Nat.le_refl _, by omega, hpl, by omega, by omega, fun h => absurd h (by decide)⟩
            exfalso; omega
          · exact ⟨hSIb, rfl⟩
        exfalso; omega
      · exact ⟨hSIa, rfl⟩
    exfalso; omega
  · exact ⟨hSI0, rfl⟩
end P45
