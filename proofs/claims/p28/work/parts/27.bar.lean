/-! the class: bars, and what finds them -/
section P27
variable {xs : Nat → Int32} {L0 : Nat}
/-- DIFFERENCE -/
def bdf (ψ : jSt) (a : Nat) : Int := if ψ a 1 = 0 then ψ a 5 - ψ a 4 else 0
/-- the bar a, at the height t, would touch the bar o -/
def btc (ψ : jSt) (a : Nat) (t : Int) (o : Nat) : Prop := ¬ ψ a 0 = ψ o 0 ∧ ψ a 0 - ψ o 0 ≤ ψ a 7 + ψ o 7 ∧ ψ o 0 - ψ a 0 ≤ ψ a 7 + ψ o 7 ∧ t - ψ a 6 ≤ ψ o 3 ∧ ψ o 3 - ψ o 6 ≤ t
theorem m_17 {ψ : jSt} {a : Nat} (ha : jBar a) (hG : jG ψ) : JZ Eq xs L0 17 0 ([some (.ref a)] ++ List.replicate 0 none) [] ψ (oI fun x ψ' => x = bdf ψ a ∧ ψ' = ψ) := by
  refine JZ_aload_n i_17_0 (by rfl) ?_
  refine JZ_gB (key := 1) i_17_1 f_17_17 (by assumption) (by rfl) rfl hG (fun u1 v1 => ?_)
  refine JZ_ifeq (tg := 11) i_17_4 (by decide) (by omega) (fun h4 => ?_) (fun h4 => ?_)
  · refine JZ_aload_n i_17_11 (by rfl) ?_
    refine JZ_gB (key := 5) i_17_12 f_17_29 (by assumption) (by rfl) rfl hG (fun u12 v12 => ?_)
    refine JZ_aload_n i_17_15 (by rfl) ?_
    refine JZ_gB (key := 4) i_17_16 f_17_26 (by assumption) (by rfl) rfl hG (fun u16 v16 => ?_)
    refine JZ_isub i_17_19 ?_
    refine JZ_iret i_17_20 r_17 ?_
    exact ⟨by unfold bdf; first | rw [if_pos h4] | rw [if_neg h4], rfl⟩
  refine JZ_iconst i_17_7 ?_
  refine JZ_goto (tg := 20) i_17_8 (by decide) ?_
  refine JZ_iret i_17_20 r_17 ?_
  exact ⟨by unfold bdf; first | rw [if_pos h4] | rw [if_neg h4], rfl⟩
theorem bdf_le {ψ : jSt} (hG : jG ψ) (a : Nat) : -120000 ≤ bdf ψ a ∧ bdf ψ a ≤ 120000 := by
  have h5 := hG a 5
  have h4 := hG a 4
  unfold bdf
  split <;> omega
theorem m_44 {ψ : jSt} {a : Nat} (ha : jBar a) (hG : jG ψ) : JZ Eq xs L0 44 0 ([some (.ref a)] ++ List.replicate 1 none) [] ψ (oI fun x ψ' => ((x = bdf ψ a ∨ x = - bdf ψ a) ∧ 0 ≤ x) ∧ ψ' = ψ) := by
  have hd := bdf_le hG a
  refine JZ_aload_n i_44_0 (by rfl) ?_
  refine JZ_v0P (j := 0) i_44_1 v_44_50 (by decide +kernel) rfl rfl (Nat.le_of_ble_eq_true rfl) (by assumption) rfl rfl (m_17 ha hG) (fun x1 hx1 => ?_)
  refine JZ_istore_n i_44_4 (by rw [l_44]; decide) (by rfl) ?_
  refine JZ_iload_n i_44_5 (by rfl) ?_
  refine JZ_ifge (tg := 14) i_44_6 (by decide) (by omega) (fun h6 => ?_) (fun h6 => ?_)
  · refine JZ_iload_n i_44_14 (by rfl) ?_
    refine JZ_iret i_44_15 r_44 ?_
    exact ⟨⟨by omega, by omega⟩, rfl⟩
  refine JZ_iload_n i_44_9 (by rfl) ?_
  refine JZ_ineg i_44_10 ?_
  refine JZ_goto (tg := 15) i_44_11 (by decide) ?_
  refine JZ_iret i_44_15 r_44 ?_
  exact ⟨⟨by omega, by omega⟩, rfl⟩
theorem m_42 {ψ : jSt} {a b : Nat} {t : Int} (ha : jBar a) (hb : jBar b) (ht : -60000 ≤ t ∧ t ≤ 60000) (hG : jG ψ) : JZ Eq xs L0 42 0 ([some (.ref a), some (.int (jI t)), some (.ref b)] ++ List.replicate 1 none) [] ψ (oI fun x ψ' => ((x = 0 ∨ x = 1) ∧ (x = 1 ↔ btc ψ a t b)) ∧ ψ' = ψ) := by
  refine JZ_aload_n i_42_0 (by rfl) ?_
  refine JZ_gB (key := 0) i_42_1 f_42_13 (by assumption) (by rfl) rfl hG (fun u1 v1 => ?_)
  refine JZ_aload_n i_42_4 (by rfl) ?_
  refine JZ_gB (key := 0) i_42_5 f_42_13 (by assumption) (by rfl) rfl hG (fun u5 v5 => ?_)
  refine JZ_icge (tg := 23) i_42_8 (by decide) (by omega) (by omega) (fun h8 => ?_) (fun h8 => ?_)
  · refine JZ_aload_n i_42_23 (by rfl) ?_
    refine JZ_gB (key := 0) i_42_24 f_42_13 (by assumption) (by rfl) rfl hG (fun u24 v24 => ?_)
    refine JZ_aload_n i_42_27 (by rfl) ?_
    refine JZ_gB (key := 0) i_42_28 f_42_13 (by assumption) (by rfl) rfl hG (fun u28 v28 => ?_)
    refine JZ_isub i_42_31 ?_
    refine JZ_istore_n i_42_32 (by rw [l_42]; decide) (by rfl) ?_
    refine JZ_iload_n i_42_33 (by rfl) ?_
    refine JZ_ifeq (tg := 80) i_42_34 (by decide) (by omega) (fun h34 => ?_) (fun h34 => ?_)
    · refine JZ_iconst i_42_80 ?_
      refine JZ_zret i_42_81 r_42 (by omega) ?_
      exact ⟨⟨by omega, by unfold btc; omega⟩, rfl⟩
    refine JZ_iload_n i_42_37 (by rfl) ?_
    refine JZ_aload_n i_42_38 (by rfl) ?_
    refine JZ_gB (key := 7) i_42_39 f_42_35 (by assumption) (by rfl) rfl hG (fun u39 v39 => ?_)
    refine JZ_aload_n i_42_42 (by rfl) ?_
    refine JZ_gB (key := 7) i_42_43 f_42_35 (by assumption) (by rfl) rfl hG (fun u43 v43 => ?_)
    refine JZ_iadd i_42_46 ?_
    refine JZ_icgt (tg := 80) i_42_47 (by decide) (by omega) (by omega) (fun h47 => ?_) (fun h47 => ?_)
    · refine JZ_iconst i_42_80 ?_
      refine JZ_zret i_42_81 r_42 (by omega) ?_
      exact ⟨⟨by omega, by unfold btc; omega⟩, rfl⟩
    refine JZ_iload_n i_42_50 (by rfl) ?_
    refine JZ_aload_n i_42_51 (by rfl) ?_
    refine JZ_gB (key := 6) i_42_52 f_42_32 (by assumption) (by rfl) rfl hG (fun u52 v52 => ?_)
    refine JZ_isub i_42_55 ?_
    refine JZ_aload_n i_42_56 (by rfl) ?_
    refine JZ_gB (key := 3) i_42_57 f_42_23 (by assumption) (by rfl) rfl hG (fun u57 v57 => ?_)
    refine JZ_icgt (tg := 80) i_42_60 (by decide) (by omega) (by omega) (fun h60 => ?_) (fun h60 => ?_)
    · refine JZ_iconst i_42_80 ?_
      refine JZ_zret i_42_81 r_42 (by omega) ?_
      exact ⟨⟨by omega, by unfold btc; omega⟩, rfl⟩
    refine JZ_aload_n i_42_63 (by rfl) ?_
    refine JZ_gB (key := 3) i_42_64 f_42_23 (by assumption) (by rfl) rfl hG (fun u64 v64 => ?_)
    refine JZ_aload_n i_42_67 (by rfl) ?_
    refine JZ_gB (key := 6) i_42_68 f_42_32 (by assumption) (by rfl) rfl hG (fun u68 v68 => ?_)
    refine JZ_isub i_42_71 ?_
    refine JZ_iload_n i_42_72 (by rfl) ?_
    refine JZ_icgt (tg := 80) i_42_73 (by decide) (by omega) (by omega) (fun h73 => ?_) (fun h73 => ?_)
    · refine JZ_iconst i_42_80 ?_
      refine JZ_zret i_42_81 r_42 (by omega) ?_
      exact ⟨⟨by omega, by unfold btc; omega⟩, rfl⟩
    refine JZ_iconst i_42_76 ?_
    refine JZ_goto (tg := 81) i_42_77 (by decide) ?_
    refine JZ_zret i_42_81 r_42 (by omega) ?_
    exact ⟨⟨by omega, by unfold btc; omega⟩, rfl⟩
  refine JZ_aload_n i_42_11 (by rfl) ?_
  refine JZ_gB (key := 0) i_42_12 f_42_13 (by assumption) (by rfl) rfl hG (fun u12 v12 => ?_)
  refine JZ_aload_n i_42_15 (by rfl) ?_
  refine JZ_gB (key := 0) i_42_16 f_42_13 (by assumption) (by rfl) rfl hG (fun u16 v16 => ?_)
  refine JZ_isub i_42_19 ?_
  refine JZ_goto (tg := 32) i_42_20 (by decide) ?_
  refine JZ_istore_n i_42_32 (by rw [l_42]; decide) (by rfl) ?_
  refine JZ_iload_n i_42_33 (by rfl) ?_
  refine JZ_ifeq (tg := 80) i_42_34 (by decide) (by omega) (fun h34 => ?_) (fun h34 => ?_)
  · refine JZ_iconst i_42_80 ?_
    refine JZ_zret i_42_81 r_42 (by omega) ?_
    exact ⟨⟨by omega, by unfold btc; omega⟩, rfl⟩
  refine JZ_iload_n i_42_37 (by rfl) ?_
  refine JZ_aload_n i_42_38 (by rfl) ?_
  refine JZ_gB (key := 7) i_42_39 f_42_35 (by assumption) (by rfl) rfl hG (fun u39 v39 => ?_)
  refine JZ_aload_n i_42_42 (by rfl) ?_
  refine JZ_gB (key := 7) i_42_43 f_42_35 (by assumption) (by rfl) rfl hG (fun u43 v43 => ?_)
  refine JZ_iadd i_42_46 ?_
  refine JZ_icgt (tg := 80) i_42_47 (by decide) (by omega) (by omega) (fun h47 => ?_) (fun h47 => ?_)
  · refine JZ_iconst i_42_80 ?_
    refine JZ_zret i_42_81 r_42 (by omega) ?_
    exact ⟨⟨by omega, by unfold btc; omega⟩, rfl⟩
  refine JZ_iload_n i_42_50 (by rfl) ?_
  refine JZ_aload_n i_42_51 (by rfl) ?_
  refine JZ_gB (key := 6) i_42_52 f_42_32 (by assumption) (by rfl) rfl hG (fun u52 v52 => ?_)
  refine JZ_isub i_42_55 ?_
  refine JZ_aload_n i_42_56 (by rfl) ?_
  refine JZ_gB (key := 3) i_42_57 f_42_23 (by assumption) (by rfl) rfl hG (fun u57 v57 => ?_)
  refine JZ_icgt (tg := 80) i_42_60 (by decide) (by omega) (by omega) (fun h60 => ?_) (fun h60 => ?_)
  · refine JZ_iconst i_42_80 ?_
    refine JZ_zret i_42_81 r_42 (by omega) ?_
    exact ⟨⟨by omega, by unfold btc; omega⟩, rfl⟩
  refine JZ_aload_n i_42_63 (by rfl) ?_
  refine JZ_gB (key := 3) i_42_64 f_42_23 (by assumption) (by rfl) rfl hG (fun u64 v64 => ?_)
  refine JZ_aload_n i_42_67 (by rfl) ?_
  refine JZ_gB (key := 6) i_42_68 f_42_32 (by assumption) (by rfl) rfl hG (fun u68 v68 => ?_)
  refine JZ_isub i_42_71 ?_
  refine JZ_iload_n i_42_72 (by rfl) ?_
  refine JZ_icgt (tg := 80) i_42_73 (by decide) (by omega) (by omega) (fun h73 => ?_) (fun h73 => ?_)
  · refine JZ_iconst i_42_80 ?_
    refine JZ_zret i_42_81 r_42 (by omega) ?_
    exact ⟨⟨by omega, by unfold btc; omega⟩, rfl⟩
  refine JZ_iconst i_42_76 ?_
  refine JZ_goto (tg := 81) i_42_77 (by decide) ?_
  refine JZ_zret i_42_81 r_42 (by omega) ?_
  exact ⟨⟨by omega, by unfold btc; omega⟩, rfl⟩
theorem m_47 {ψ : jSt} {a : Nat} {t : Int} (ha : jBar a) (ht : 0 ≤ t ∧ t ≤ 120) (h3 : 0 ≤ ψ a 3 ∧ ψ a 3 ≤ 120) (h11 : 0 ≤ ψ a 11 ∧ ψ a 11 ≤ 40000) (hG : jG ψ) : JZ Eq xs L0 47 0 ([some (.ref a), some (.int (jI t))] ++ List.replicate 0 none) [] ψ (oV fun ψ' => ∃ g, (g = t - ψ a 3 ∨ g = ψ a 3 - t) ∧ 0 ≤ g ∧ ψ' = jU (jU ψ a 11 (ψ a 11 + g)) a 3 t ∧ jG ψ') := by
  refine JZ_aload_n i_47_0 (by rfl) ?_
  refine JZ_dup i_47_1 rfl ?_
  refine JZ_gB (key := 11) i_47_2 f_47_44 (by assumption) (by rfl) rfl hG (fun u2 v2 => ?_)
  refine JZ_iload_n i_47_5 (by rfl) ?_
  refine JZ_aload_n i_47_6 (by rfl) ?_
  refine JZ_gB (key := 3) i_47_7 f_47_23 (by assumption) (by rfl) rfl hG (fun u7 v7 => ?_)
  refine JZ_icge (tg := 22) i_47_10 (by decide) (by omega) (by omega) (fun h10 => ?_) (fun h10 => ?_)
  · refine JZ_iload_n i_47_22 (by rfl) ?_
    refine JZ_aload_n i_47_23 (by rfl) ?_
    refine JZ_gB (key := 3) i_47_24 f_47_23 (by assumption) (by rfl) rfl hG (fun u24 v24 => ?_)
    refine JZ_isub i_47_27 ?_
    refine JZ_iadd i_47_28 ?_
    refine JZ_pB (key := 11) i_47_29 f_47_44 (by assumption) (by rfl) rfl (Or.inl t_0_11) (by rfl) hG (by omega) (fun hG => ?_)
    refine JZ_aload_n i_47_32 (by rfl) ?_
    refine JZ_iload_n i_47_33 (by rfl) ?_
    refine JZ_pB (key := 3) i_47_34 f_47_23 (by assumption) (by rfl) rfl (Or.inl t_0_3) (by rfl) hG (by omega) (fun hG => ?_)
    refine JZ_vret i_47_37 r_47 ?_
    exact ⟨_, by omega, by omega, rfl, hG⟩
  refine JZ_aload_n i_47_13 (by rfl) ?_
  refine JZ_gB (key := 3) i_47_14 f_47_23 (by assumption) (by rfl) rfl hG (fun u14 v14 => ?_)
  refine JZ_iload_n i_47_17 (by rfl) ?_
  refine JZ_isub i_47_18 ?_
  refine JZ_goto (tg := 28) i_47_19 (by decide) ?_
  refine JZ_iadd i_47_28 ?_
  refine JZ_pB (key := 11) i_47_29 f_47_44 (by assumption) (by rfl) rfl (Or.inl t_0_11) (by rfl) hG (by omega) (fun hG => ?_)
  refine JZ_aload_n i_47_32 (by rfl) ?_
  refine JZ_iload_n i_47_33 (by rfl) ?_
  refine JZ_pB (key := 3) i_47_34 f_47_23 (by assumption) (by rfl) rfl (Or.inl t_0_3) (by rfl) hG (by omega) (fun hG => ?_)
  refine JZ_vret i_47_37 r_47 ?_
  exact ⟨_, by omega, by omega, rfl, hG⟩
theorem m_16 {ψ : jSt} {r : Nat} (hr : jR2 r) {x : Int} (b : Nat) (hx : x = (b : Int)) (hb : x < ψ r 81) (hn : ψ r 81 ≤ 8) (hG : jG ψ) : JZ Eq xs L0 16 0 ([some (.ref r), some (.int (jI x))] ++ List.replicate 0 none) [] ψ (oR fun a ψ' => a = r + 2 + b ∧ ψ' = ψ) := by
  have hrig := jR_rig hr
  have hr' : r = 2 ∨ r = 61 := hr
  refine JZ_iload_n i_16_0 (by rfl) ?_
  refine JZ_iflt (tg := 12) i_16_1 (by decide) (by omega) (fun h1 => ?_) (fun h1 => ?_)
  · exfalso; omega
  refine JZ_iload_n i_16_4 (by rfl) ?_
  refine JZ_aload_n i_16_5 (by rfl) ?_
  refine JZ_gB (key := 81) i_16_6 f_16_37 (by assumption) (by rfl) rfl hG (fun u6 v6 => ?_)
  refine JZ_iclt (tg := 22) i_16_9 (by decide) (by omega) (by omega) (fun h9 => ?_) (fun h9 => ?_)
  · refine JZ_aload_n i_16_22 (by rfl) ?_
    refine JZ_gR i_16_23 f_16_23 (by assumption) (by rfl) ?_
    refine JZ_iload_n i_16_26 (by rfl) ?_
    refine JZ_aBar (b) i_16_27 hr (by omega) (by omega) ?_
    refine JZ_aret i_16_28 r_16 (by decide +kernel) ?_
    exact ⟨rfl, rfl⟩
  exfalso; omega
theorem m_11 {ψ : jSt} {r : Nat} (hr : jR2 r) {x : Int} (b : Nat) (hx : x = (b : Int)) (hb : x < ψ r 83) (hn : ψ r 83 ≤ 6) (hG : jG ψ) : JZ Eq xs L0 11 0 ([some (.ref r), some (.int (jI x))] ++ List.replicate 0 none) [] ψ (oR fun a ψ' => a = r + 11 + 8 * b ∧ ψ' = ψ) := by
  have hrig := jR_rig hr
  have hr' : r = 2 ∨ r = 61 := hr
  refine JZ_iload_n i_11_0 (by rfl) ?_
  refine JZ_iflt (tg := 12) i_11_1 (by decide) (by omega) (fun h1 => ?_) (fun h1 => ?_)
  · exfalso; omega
  refine JZ_iload_n i_11_4 (by rfl) ?_
  refine JZ_aload_n i_11_5 (by rfl) ?_
  refine JZ_gB (key := 83) i_11_6 f_11_44 (by assumption) (by rfl) rfl hG (fun u6 v6 => ?_)
  refine JZ_iclt (tg := 22) i_11_9 (by decide) (by omega) (by omega) (fun h9 => ?_) (fun h9 => ?_)
  · refine JZ_aload_n i_11_22 (by rfl) ?_
    refine JZ_gR i_11_23 f_11_32 (by assumption) (by rfl) ?_
    refine JZ_iload_n i_11_26 (by rfl) ?_
    refine JZ_aCue (b) i_11_27 hr (by omega) (by omega) ?_
    refine JZ_aret i_11_28 r_11 (by decide +kernel) ?_
    exact ⟨rfl, rfl⟩
  exfalso; omega
theorem m_19 {ψ : jSt} {x : Int} (b : Nat) (hx : x = (b : Int)) (hb : x < ψ 1 103) (hn : ψ 1 103 ≤ 10) (hG : jG ψ) : JZ Eq xs L0 19 0 ([some (.ref 1), some (.int (jI x))] ++ List.replicate 0 none) [] ψ (oR fun a ψ' => a = 121 + b ∧ ψ' = ψ) := by
  have hT := jTow1
  refine JZ_iload_n i_19_0 (by rfl) ?_
  refine JZ_iflt (tg := 12) i_19_1 (by decide) (by omega) (fun h1 => ?_) (fun h1 => ?_)
  · exfalso; omega
  refine JZ_iload_n i_19_4 (by rfl) ?_
  refine JZ_aload_n i_19_5 (by rfl) ?_
  refine JZ_gB (key := 103) i_19_6 f_19_68 (by assumption) (by rfl) rfl hG (fun u6 v6 => ?_)
  refine JZ_iclt (tg := 23) i_19_9 (by decide) (by omega) (by omega) (fun h9 => ?_) (fun h9 => ?_)
  · refine JZ_aload_n i_19_23 (by rfl) ?_
    refine JZ_gR i_19_24 f_19_21 jTow1 (by rfl) ?_
    refine JZ_iload_n i_19_27 (by rfl) ?_
    refine JZ_aPiece (b) i_19_28 (by omega) (by omega) ?_
    refine JZ_aret i_19_29 r_19 (by decide +kernel) ?_
    exact ⟨rfl, rfl⟩
  exfalso; omega
theorem m_26 {ψ : jSt} {r : Nat} (hr : jR2 r) {k : Nat} {x : Int} (b : Nat) (hk : k < 6) (hx : x = (b : Int)) (hb : x < ψ (r + 11 + 8 * k) 21) (hn : ψ (r + 11 + 8 * k) 21 ≤ 6) (hG : jG ψ) : JZ Eq xs L0 26 0 ([some (.ref (r + 11 + 8 * k)), some (.int (jI x))] ++ List.replicate 0 none) [] ψ (oR fun a ψ' => a = r + 13 + 8 * k + b ∧ ψ' = ψ) := by
  have hrig := jR_rig hr
  have hr' : r = 2 ∨ r = 61 := hr
  have hcue := (jR_cue hr hk).1
  refine JZ_iload_n i_26_0 (by rfl) ?_
  refine JZ_iflt (tg := 12) i_26_1 (by decide) (by omega) (fun h1 => ?_) (fun h1 => ?_)
  · exfalso; omega
  refine JZ_iload_n i_26_4 (by rfl) ?_
  refine JZ_aload_n i_26_5 (by rfl) ?_
  refine JZ_gB (key := 21) i_26_6 f_26_22 (by assumption) (by rfl) rfl hG (fun u6 v6 => ?_)
  refine JZ_iclt (tg := 22) i_26_9 (by decide) (by omega) (by omega) (fun h9 => ?_) (fun h9 => ?_)
  · refine JZ_aload_n i_26_22 (by rfl) ?_
    refine JZ_gMoves i_26_23 f_26_17 hr (by omega) ?_
    refine JZ_iload_n i_26_26 (by rfl) ?_
    refine JZ_aMove (b) i_26_27 hr (by omega) (by omega) (by omega) ?_
    refine JZ_aret i_26_28 r_26 (by decide +kernel) ?_
    exact ⟨rfl, rfl⟩
  exfalso; omega
theorem m_26x {ψ : jSt} {r : Nat} (hr : jR2 r) {k : Nat} {x : Int} (hk : k < 6) (h0 : 0 ≤ x ∧ x ≤ 60000) (hb : ψ (r + 11 + 8 * k) 21 ≤ x) (hG : jG ψ) : JZ Eq xs L0 26 0 ([some (.ref (r + 11 + 8 * k)), some (.int (jI x))] ++ List.replicate 0 none) [] ψ (oX "java/lang/IndexOutOfBoundsException" fun ψ' => ψ' = ψ) := by
  have hrig := jR_rig hr
  have hr' : r = 2 ∨ r = 61 := hr
  have hcue := (jR_cue hr hk).1
  refine JZ_iload_n i_26_0 (by rfl) ?_
  refine JZ_iflt (tg := 12) i_26_1 (by decide) (by omega) (fun h1 => ?_) (fun h1 => ?_)
  · exact JZ_thr th_26_12 (by decide +kernel) rfl
  refine JZ_iload_n i_26_4 (by rfl) ?_
  refine JZ_aload_n i_26_5 (by rfl) ?_
  refine JZ_gB (key := 21) i_26_6 f_26_22 (by assumption) (by rfl) rfl hG (fun u6 v6 => ?_)
  refine JZ_iclt (tg := 22) i_26_9 (by decide) (by omega) (by omega) (fun h9 => ?_) (fun h9 => ?_)
  · exfalso; omega
  exact JZ_thr th_26_12 (by decide +kernel) rfl
end P27
