/-! the class: one move, one run away -/
theorem jU_id {ψ : jSt} {a k : Nat} {v : Int} (h : ψ a k = v) : jU ψ a k v = ψ := by
  funext a' k'
  unfold jU
  split
  · next q => rw [q.1, q.2, h]
  · rfl
theorem jU_coll {ψ : jSt} {a k1 k2 : Nat} {v1 v2 w1 w2 : Int} : jU (jU (jU (jU ψ a k1 v1) a k2 v2) a k1 w1) a k2 w2 = jU (jU ψ a k1 w1) a k2 w2 := by
  funext a' k'
  unfold jU
  by_cases q2 : k' = k2 ∧ a' = a
  · simp only [if_pos q2]
  · by_cases q1 : k' = k1 ∧ a' = a
    · simp only [if_neg q2, if_pos q1]
    · simp only [if_neg q2, if_neg q1]
/-- touching is told by numbers, drops, thicknesses and heights -/
theorem btc_eq {ψ φ : jSt} {a x : Nat} {t : Int} (h0 : φ a 0 = ψ a 0) (h0' : φ x 0 = ψ x 0) (h7 : φ a 7 = ψ a 7) (h7' : φ x 7 = ψ x 7) (h6 : φ a 6 = ψ a 6) (h6' : φ x 6 = ψ x 6) (h3' : φ x 3 = ψ x 3) : btc φ a t x ↔ btc ψ a t x := by
  unfold btc
  rw [h0, h0', h7, h7', h6, h6', h3']
/-- .. of a bar whose own height alone has changed -/
theorem btc_own {ψ φ : jSt} {a x : Nat} {t : Int} (h : ∀ a' k', ¬ (a' = a ∧ k' = 3) → (k' = 0 ∨ k' = 7 ∨ k' = 6 ∨ k' = 3) → φ a' k' = ψ a' k') : btc φ a t x ↔ btc ψ a t x := by
  by_cases q : x = a
  · subst q
    unfold btc
    rw [h x 0 (by omega) (by omega)]
    omega
  · exact btc_eq (h _ _ (by omega) (by omega)) (h _ _ (by omega) (by omega)) (h _ _ (by omega) (by omega)) (h _ _ (by omega) (by omega)) (h _ _ (by omega) (by omega)) (h _ _ (by omega) (by omega)) (h _ _ (by omega) (by omega))
section P28
variable {xs : Nat → Int32} {L0 : Nat}
theorem m_46 {ψ : jSt} {r : Nat} (hr : jR2 r) (n : Nat) (hn : ψ r 81 = (n : Int)) (hn8 : n ≤ 8) {a : Nat} {t : Int} (ha : jBar a) (ht : -60000 ≤ t ∧ t ≤ 60000) (hG : jG ψ) : JZ Eq xs L0 46 0 ([some (.ref r), some (.ref a), some (.int (jI t))] ++ List.replicate 1 none) [] ψ (oI fun x ψ' => ((x = 0 ∨ x = 1) ∧ (x = 0 → ∀ j, j < n → btc ψ a t (r + 2 + j) → btc ψ a (ψ a 3) (r + 2 + j))) ∧ ψ' = ψ) := by
  have hrig := jR_rig hr
  have hr' : r = 2 ∨ r = 61 := hr
  have hal := jSk_lt ha
  refine JZ_iconst i_46_0 ?_
  refine JZ_istore_n i_46_1 (by rw [l_46]; decide) (by rfl) ?_
  refine JZ_fg (L' := [some (.ref r), some (.ref a), some (.int (jI t)), some (.int (jI (((0 : Nat) : Int))))]) ?_ (by repeat (first | exact trivial | refine ⟨rfl, ?_⟩))
  refine JZ_forP (σ := Unit) (N := n) (I := fun i _ => ∀ j, j < i → btc ψ a t (r + 2 + j) → btc ψ a (ψ a 3) (r + 2 + j)) (Lf := fun i _ => [some (.ref r), some (.ref a), some (.int (jI t)), some (.int (jI ((i : Int))))]) ?_ ?_ n 0 () (by omega) ?_
  · intro i s hi hI hK
    have hbar := jR_bar hr (show i < 8 by omega)
    have hbl := jSk_lt hbar
    refine JZ_iload_n i_46_2 (by rfl) ?_
    refine JZ_aload_n i_46_3 (by rfl) ?_
    refine JZ_gB (key := 81) i_46_4 f_46_37 (by assumption) (by rfl) rfl hG (fun u4 v4 => ?_)
    refine JZ_icge (tg := 49) i_46_7 (by decide) (by omega) (by omega) (fun h7 => ?_) (fun h7 => ?_)
    · exfalso; omega
    refine JZ_aload_n i_46_10 (by rfl) ?_
    refine JZ_iload_n i_46_11 (by rfl) ?_
    refine JZ_aload_n i_46_12 (by rfl) ?_
    refine JZ_gR i_46_13 f_46_23 (by assumption) (by rfl) ?_
    refine JZ_iload_n i_46_16 (by rfl) ?_
    refine JZ_aBar (i) i_46_17 hr (by omega) (by omega) ?_
    refine JZ_v2P (j := 1) i_46_18 v_46_194 (by decide +kernel) rfl rfl (Nat.le_of_ble_eq_true rfl) (by assumption) (by first | rfl | (simp only [List.all_cons, List.all_nil, g_ok, Bool.and_true, Bool.true_and, Bool.and_eq_true, decide_eq_true_eq] <;> first | assumption | exact ⟨by assumption, by assumption⟩ | exact ⟨by assumption, by assumption, by assumption⟩ | omega)) rfl (m_42 ha hbar ht hG) (fun x1 hq18 => ?_)
    refine JZ_ifeq (tg := 43) i_46_21 (by decide) (by omega) (fun h21 => ?_) (fun h21 => ?_)
    · refine JZ_iinc i_46_43 (by rfl) (by rw [l_46]; decide) (by rfl) ?_
      refine JZ_goto (tg := 2) i_46_46 (by decide) ?_
      refine JZ_fg (hK () (fun j hj hb => ?_)) (by repeat (first | exact trivial | refine ⟨rfl, ?_⟩))
      rcases Nat.lt_or_eq_of_le (Nat.lt_succ_iff.mp hj) with hj | rfl
      · exact hI j hj hb
      · first | exact hq35.2.mp (by omega) | exact absurd (hq18.2.mpr hb) (by omega)
    refine JZ_aload_n i_46_24 (by rfl) ?_
    refine JZ_aload_n i_46_25 (by rfl) ?_
    refine JZ_gB (key := 3) i_46_26 f_46_107 (by assumption) (by rfl) rfl hG (fun u26 v26 => ?_)
    refine JZ_aload_n i_46_29 (by rfl) ?_
    refine JZ_gR i_46_30 f_46_23 (by assumption) (by rfl) ?_
    refine JZ_iload_n i_46_33 (by rfl) ?_
    refine JZ_aBar (i) i_46_34 hr (by omega) (by omega) ?_
    refine JZ_v2P (j := 1) i_46_35 v_46_194 (by decide +kernel) rfl rfl (Nat.le_of_ble_eq_true rfl) (by assumption) (by first | rfl | (simp only [List.all_cons, List.all_nil, g_ok, Bool.and_true, Bool.true_and, Bool.and_eq_true, decide_eq_true_eq] <;> first | assumption | exact ⟨by assumption, by assumption⟩ | exact ⟨by assumption, by assumption, by assumption⟩ | omega)) rfl (m_42 ha hbar ⟨u26, v26⟩ hG) (fun x2 hq35 => ?_)
    refine JZ_ifne (tg := 43) i_46_38 (by decide) (by omega) (fun h38 => ?_) (fun h38 => ?_)
    · refine JZ_iinc i_46_43 (by rfl) (by rw [l_46]; decide) (by rfl) ?_
      refine JZ_goto (tg := 2) i_46_46 (by decide) ?_
      refine JZ_fg (hK () (fun j hj hb => ?_)) (by repeat (first | exact trivial | refine ⟨rfl, ?_⟩))
      rcases Nat.lt_or_eq_of_le (Nat.lt_succ_iff.mp hj) with hj | rfl
      · exact hI j hj hb
      · first | exact hq35.2.mp (by omega) | exact absurd (hq18.2.mpr hb) (by omega)
    refine JZ_iconst i_46_41 ?_
    refine JZ_zret i_46_42 r_46 (by omega) ?_
    exact ⟨⟨by omega, fun q => absurd q (by omega)⟩, rfl⟩
  · intro s hI
    refine JZ_iload_n i_46_2 (by rfl) ?_
    refine JZ_aload_n i_46_3 (by rfl) ?_
    refine JZ_gB (key := 81) i_46_4 f_46_37 (by assumption) (by rfl) rfl hG (fun u4 v4 => ?_)
    refine JZ_icge (tg := 49) i_46_7 (by decide) (by omega) (by omega) (fun h7 => ?_) (fun h7 => ?_)
    · refine JZ_iconst i_46_49 ?_
      refine JZ_zret i_46_50 r_46 (by omega) ?_
      exact ⟨⟨by omega, fun _ => hI⟩, rfl⟩
    exfalso; omega
  · exact fun j hj => absurd hj (Nat.not_lt_zero j)
def q45 (ψ : jSt) (r a : Nat) (x : Int) (ψ' : jSt) : Prop := jG ψ' ∧ ((x = 0 ∧ ψ' = jU (jU ψ a 44 2) r 92 (ψ r 92 + 1)) ∨ (x = 0 ∧ ψ' = jU (jU ψ a 45 (ψ a 45 + 1)) r 96 (ψ r 96 + 1)) ∨ (x = 1 ∧ ψ' = ψ))
theorem m_45 {ψ : jSt} {r : Nat} (hr : jR2 r) {a o : Nat} (ha : jMove a) (ho : jBar o) (h92 : 0 ≤ ψ r 92 ∧ ψ r 92 ≤ 40000) (h96 : 0 ≤ ψ r 96 ∧ ψ r 96 ≤ 40000) (h45 : 0 ≤ ψ a 45 ∧ ψ a 45 ≤ 40000) (hG : jG ψ) : JZ Eq xs L0 45 0 ([some (.ref r), some (.ref a), some (.ref o)] ++ List.replicate 1 none) [] ψ (oI (q45 ψ r a)) := by
  have hrig := jR_rig hr
  have hr' : r = 2 ∨ r = 61 := hr
  have hal := jSk_lt ha
  have hol := jSk_lt ho
  have hd := bdf_le hG o
  refine JZ_aload_n i_45_0 (by rfl) ?_
  refine JZ_v0P (j := 1) i_45_1 v_45_156 (by decide +kernel) rfl rfl (Nat.le_of_ble_eq_true rfl) (by assumption) rfl rfl (m_44 ho hG) (fun x1 hq1 => ?_)
  refine JZ_bipush i_45_4 (by decide) ?_
  refine JZ_icle (tg := 26) i_45_6 (by decide) (by omega) (by omega) (fun h6 => ?_) (fun h6 => ?_)
  · refine JZ_aload_n i_45_26 (by rfl) ?_
    refine JZ_gB (key := 1) i_45_27 f_45_159 (by assumption) (by rfl) rfl hG (fun u27 v27 => ?_)
    refine JZ_ifne (tg := 44) i_45_30 (by decide) (by omega) (fun h30 => ?_) (fun h30 => ?_)
    · refine JZ_iconst i_45_44 ?_
      refine JZ_istore_n i_45_45 (by rw [l_45]; decide) (by rfl) ?_
      refine JZ_iload_n i_45_46 (by rfl) ?_
      refine JZ_ifne (tg := 64) i_45_47 (by decide) (by omega) (fun h47 => ?_) (fun h47 => ?_)
      · refine JZ_aload_n i_45_64 (by rfl) ?_
        refine JZ_dup i_45_65 rfl ?_
        refine JZ_gB (key := 45) i_45_66 f_45_168 (by assumption) (by rfl) rfl hG (fun u66 v66 => ?_)
        refine JZ_iconst i_45_69 ?_
        refine JZ_iadd i_45_70 ?_
        refine JZ_pB (key := 45) i_45_71 f_45_168 (by assumption) (by rfl) rfl (Or.inl t_2_5) (by rfl) hG (by omega) (fun hG => ?_)
        have e76 : jU ψ a 45 (ψ a 45 + 1) r 96 = ψ r 96 := jU_nk (by decide)
        refine JZ_aload_n i_45_74 (by rfl) ?_
        refine JZ_dup i_45_75 rfl ?_
        refine JZ_gB (key := 96) i_45_76 f_45_81 (by assumption) (by rfl) rfl hG (fun u76 v76 => ?_)
        refine JZ_iconst i_45_79 ?_
        refine JZ_iadd i_45_80 ?_
        refine JZ_pB (key := 96) i_45_81 f_45_81 (by assumption) (by rfl) rfl (Or.inl t_4_16) (by rfl) hG (by omega) (fun hG => ?_)
        refine JZ_iconst i_45_84 ?_
        refine JZ_zret i_45_85 r_45 (by omega) ?_
        exact ⟨hG, Or.inr (Or.inl ⟨rfl, by rw [e76]⟩)⟩
      refine JZ_aload_n i_45_50 (by rfl) ?_
      refine JZ_gB (key := 8) i_45_51 f_45_162 (by assumption) (by rfl) rfl hG (fun u51 v51 => ?_)
      refine JZ_ifeq (tg := 86) i_45_54 (by decide) (by omega) (fun h54 => ?_) (fun h54 => ?_)
      · refine JZ_iconst i_45_86 ?_
        refine JZ_zret i_45_87 r_45 (by omega) ?_
        exact ⟨hG, Or.inr (Or.inr ⟨rfl, rfl⟩)⟩
      refine JZ_aload_n i_45_57 (by rfl) ?_
      refine JZ_gB (key := 9) i_45_58 f_45_165 (by assumption) (by rfl) rfl hG (fun u58 v58 => ?_)
      refine JZ_ifne (tg := 86) i_45_61 (by decide) (by omega) (fun h61 => ?_) (fun h61 => ?_)
      · refine JZ_iconst i_45_86 ?_
        refine JZ_zret i_45_87 r_45 (by omega) ?_
        exact ⟨hG, Or.inr (Or.inr ⟨rfl, rfl⟩)⟩
      refine JZ_aload_n i_45_64 (by rfl) ?_
      refine JZ_dup i_45_65 rfl ?_
      refine JZ_gB (key := 45) i_45_66 f_45_168 (by assumption) (by rfl) rfl hG (fun u66 v66 => ?_)
      refine JZ_iconst i_45_69 ?_
      refine JZ_iadd i_45_70 ?_
      refine JZ_pB (key := 45) i_45_71 f_45_168 (by assumption) (by rfl) rfl (Or.inl t_2_5) (by rfl) hG (by omega) (fun hG => ?_)
      have e76 : jU ψ a 45 (ψ a 45 + 1) r 96 = ψ r 96 := jU_nk (by decide)
      refine JZ_aload_n i_45_74 (by rfl) ?_
      refine JZ_dup i_45_75 rfl ?_
      refine JZ_gB (key := 96) i_45_76 f_45_81 (by assumption) (by rfl) rfl hG (fun u76 v76 => ?_)
      refine JZ_iconst i_45_79 ?_
      refine JZ_iadd i_45_80 ?_
      refine JZ_pB (key := 96) i_45_81 f_45_81 (by assumption) (by rfl) rfl (Or.inl t_4_16) (by rfl) hG (by omega) (fun hG => ?_)
      refine JZ_iconst i_45_84 ?_
      refine JZ_zret i_45_85 r_45 (by omega) ?_
      exact ⟨hG, Or.inr (Or.inl ⟨rfl, by rw [e76]⟩)⟩
    refine JZ_aload_n i_45_33 (by rfl) ?_
    refine JZ_gB (key := 85) i_45_34 f_45_50 (by assumption) (by rfl) rfl hG (fun u34 v34 => ?_)
    refine JZ_ifne (tg := 44) i_45_37 (by decide) (by omega) (fun h37 => ?_) (fun h37 => ?_)
    · refine JZ_iconst i_45_44 ?_
      refine JZ_istore_n i_45_45 (by rw [l_45]; decide) (by rfl) ?_
      refine JZ_iload_n i_45_46 (by rfl) ?_
      refine JZ_ifne (tg := 64) i_45_47 (by decide) (by omega) (fun h47 => ?_) (fun h47 => ?_)
      · refine JZ_aload_n i_45_64 (by rfl) ?_
        refine JZ_dup i_45_65 rfl ?_
        refine JZ_gB (key := 45) i_45_66 f_45_168 (by assumption) (by rfl) rfl hG (fun u66 v66 => ?_)
        refine JZ_iconst i_45_69 ?_
        refine JZ_iadd i_45_70 ?_
        refine JZ_pB (key := 45) i_45_71 f_45_168 (by assumption) (by rfl) rfl (Or.inl t_2_5) (by rfl) hG (by omega) (fun hG => ?_)
        have e76 : jU ψ a 45 (ψ a 45 + 1) r 96 = ψ r 96 := jU_nk (by decide)
        refine JZ_aload_n i_45_74 (by rfl) ?_
        refine JZ_dup i_45_75 rfl ?_
        refine JZ_gB (key := 96) i_45_76 f_45_81 (by assumption) (by rfl) rfl hG (fun u76 v76 => ?_)
        refine JZ_iconst i_45_79 ?_
        refine JZ_iadd i_45_80 ?_
        refine JZ_pB (key := 96) i_45_81 f_45_81 (by assumption) (by rfl) rfl (Or.inl t_4_16) (by rfl) hG (by omega) (fun hG => ?_)
        refine JZ_iconst i_45_84 ?_
        refine JZ_zret i_45_85 r_45 (by omega) ?_
        exact ⟨hG, Or.inr (Or.inl ⟨rfl, by rw [e76]⟩)⟩
      refine JZ_aload_n i_45_50 (by rfl) ?_
      refine JZ_gB (key := 8) i_45_51 f_45_162 (by assumption) (by rfl) rfl hG (fun u51 v51 => ?_)
      refine JZ_ifeq (tg := 86) i_45_54 (by decide) (by omega) (fun h54 => ?_) (fun h54 => ?_)
      · refine JZ_iconst i_45_86 ?_
        refine JZ_zret i_45_87 r_45 (by omega) ?_
        exact ⟨hG, Or.inr (Or.inr ⟨rfl, rfl⟩)⟩
      refine JZ_aload_n i_45_57 (by rfl) ?_
      refine JZ_gB (key := 9) i_45_58 f_45_165 (by assumption) (by rfl) rfl hG (fun u58 v58 => ?_)
      refine JZ_ifne (tg := 86) i_45_61 (by decide) (by omega) (fun h61 => ?_) (fun h61 => ?_)
      · refine JZ_iconst i_45_86 ?_
        refine JZ_zret i_45_87 r_45 (by omega) ?_
        exact ⟨hG, Or.inr (Or.inr ⟨rfl, rfl⟩)⟩
      refine JZ_aload_n i_45_64 (by rfl) ?_
      refine JZ_dup i_45_65 rfl ?_
      refine JZ_gB (key := 45) i_45_66 f_45_168 (by assumption) (by rfl) rfl hG (fun u66 v66 => ?_)
      refine JZ_iconst i_45_69 ?_
      refine JZ_iadd i_45_70 ?_
      refine JZ_pB (key := 45) i_45_71 f_45_168 (by assumption) (by rfl) rfl (Or.inl t_2_5) (by rfl) hG (by omega) (fun hG => ?_)
      have e76 : jU ψ a 45 (ψ a 45 + 1) r 96 = ψ r 96 := jU_nk (by decide)
      refine JZ_aload_n i_45_74 (by rfl) ?_
      refine JZ_dup i_45_75 rfl ?_
      refine JZ_gB (key := 96) i_45_76 f_45_81 (by assumption) (by rfl) rfl hG (fun u76 v76 => ?_)
      refine JZ_iconst i_45_79 ?_
      refine JZ_iadd i_45_80 ?_
      refine JZ_pB (key := 96) i_45_81 f_45_81 (by assumption) (by rfl) rfl (Or.inl t_4_16) (by rfl) hG (by omega) (fun hG => ?_)
      refine JZ_iconst i_45_84 ?_
      refine JZ_zret i_45_85 r_45 (by omega) ?_
      exact ⟨hG, Or.inr (Or.inl ⟨rfl, by rw [e76]⟩)⟩
    refine JZ_iconst i_45_40 ?_
    refine JZ_goto (tg := 45) i_45_41 (by decide) ?_
    refine JZ_istore_n i_45_45 (by rw [l_45]; decide) (by rfl) ?_
    refine JZ_iload_n i_45_46 (by rfl) ?_
    refine JZ_ifne (tg := 64) i_45_47 (by decide) (by omega) (fun h47 => ?_) (fun h47 => ?_)
    · refine JZ_aload_n i_45_64 (by rfl) ?_
      refine JZ_dup i_45_65 rfl ?_
      refine JZ_gB (key := 45) i_45_66 f_45_168 (by assumption) (by rfl) rfl hG (fun u66 v66 => ?_)
      refine JZ_iconst i_45_69 ?_
      refine JZ_iadd i_45_70 ?_
      refine JZ_pB (key := 45) i_45_71 f_45_168 (by assumption) (by rfl) rfl (Or.inl t_2_5) (by rfl) hG (by omega) (fun hG => ?_)
      have e76 : jU ψ a 45 (ψ a 45 + 1) r 96 = ψ r 96 := jU_nk (by decide)
      refine JZ_aload_n i_45_74 (by rfl) ?_
      refine JZ_dup i_45_75 rfl ?_
      refine JZ_gB (key := 96) i_45_76 f_45_81 (by assumption) (by rfl) rfl hG (fun u76 v76 => ?_)
      refine JZ_iconst i_45_79 ?_
      refine JZ_iadd i_45_80 ?_
      refine JZ_pB (key := 96) i_45_81 f_45_81 (by assumption) (by rfl) rfl (Or.inl t_4_16) (by rfl) hG (by omega) (fun hG => ?_)
      refine JZ_iconst i_45_84 ?_
      refine JZ_zret i_45_85 r_45 (by omega) ?_
      exact ⟨hG, Or.inr (Or.inl ⟨rfl, by rw [e76]⟩)⟩
    refine JZ_aload_n i_45_50 (by rfl) ?_
    refine JZ_gB (key := 8) i_45_51 f_45_162 (by assumption) (by rfl) rfl hG (fun u51 v51 => ?_)
    refine JZ_ifeq (tg := 86) i_45_54 (by decide) (by omega) (fun h54 => ?_) (fun h54 => ?_)
    · refine JZ_iconst i_45_86 ?_
      refine JZ_zret i_45_87 r_45 (by omega) ?_
      exact ⟨hG, Or.inr (Or.inr ⟨rfl, rfl⟩)⟩
    refine JZ_aload_n i_45_57 (by rfl) ?_
    refine JZ_gB (key := 9) i_45_58 f_45_165 (by assumption) (by rfl) rfl hG (fun u58 v58 => ?_)
    refine JZ_ifne (tg := 86) i_45_61 (by decide) (by omega) (fun h61 => ?_) (fun h61 => ?_)
    · refine JZ_iconst i_45_86 ?_
      refine JZ_zret i_45_87 r_45 (by omega) ?_
      exact ⟨hG, Or.inr (Or.inr ⟨rfl, rfl⟩)⟩
    refine JZ_aload_n i_45_64 (by rfl) ?_
    refine JZ_dup i_45_65 rfl ?_
    refine JZ_gB (key := 45) i_45_66 f_45_168 (by assumption) (by rfl) rfl hG (fun u66 v66 => ?_)
    refine JZ_iconst i_45_69 ?_
    refine JZ_iadd i_45_70 ?_
    refine JZ_pB (key := 45) i_45_71 f_45_168 (by assumption) (by rfl) rfl (Or.inl t_2_5) (by rfl) hG (by omega) (fun hG => ?_)
    have e76 : jU ψ a 45 (ψ a 45 + 1) r 96 = ψ r 96 := jU_nk (by decide)
    refine JZ_aload_n i_45_74 (by rfl) ?_
    refine JZ_dup i_45_75 rfl ?_
    refine JZ_gB (key := 96) i_45_76 f_45_81 (by assumption) (by rfl) rfl hG (fun u76 v76 => ?_)
    refine JZ_iconst i_45_79 ?_
    refine JZ_iadd i_45_80 ?_
    refine JZ_pB (key := 96) i_45_81 f_45_81 (by assumption) (by rfl) rfl (Or.inl t_4_16) (by rfl) hG (by omega) (fun hG => ?_)
    refine JZ_iconst i_45_84 ?_
    refine JZ_zret i_45_85 r_45 (by omega) ?_
    exact ⟨hG, Or.inr (Or.inl ⟨rfl, by rw [e76]⟩)⟩
  refine JZ_aload_n i_45_9 (by rfl) ?_
  refine JZ_iconst i_45_10 ?_
  refine JZ_pB (key := 44) i_45_11 f_45_133 (by assumption) (by rfl) rfl (Or.inl t_2_4) (by rfl) hG (by omega) (fun hG => ?_)
  have e16 : jU ψ a 44 2 r 92 = ψ r 92 := jU_nk (by decide)
  refine JZ_aload_n i_45_14 (by rfl) ?_
  refine JZ_dup i_45_15 rfl ?_
  refine JZ_gB (key := 92) i_45_16 f_45_69 (by assumption) (by rfl) rfl hG (fun u16 v16 => ?_)
  refine JZ_iconst i_45_19 ?_
  refine JZ_iadd i_45_20 ?_
  refine JZ_pB (key := 92) i_45_21 f_45_69 (by assumption) (by rfl) rfl (Or.inl t_4_12) (by rfl) hG (by omega) (fun hG => ?_)
  refine JZ_iconst i_45_24 ?_
  refine JZ_zret i_45_25 r_45 (by omega) ?_
  exact ⟨hG, Or.inl ⟨rfl, by rw [e16]⟩⟩
def q48 (ψ : jSt) (r a o n : Nat) (ψ' : jSt) : Prop := jG ψ' ∧ ∃ v, -60000 ≤ v ∧ v ≤ 60000 ∧ (v = ψ r 85 ∨ v = ψ r 85 - 1) ∧ (
  ψ' = jU (jU (jU (jU ψ r 85 v) r 88 1) r 93 (ψ r 93 + 1)) r 97 (ψ o 0)
  ∨ ∃ t g s e : Int, 0 ≤ t ∧ t ≤ 120 ∧ (g = t - ψ o 3 ∨ g = ψ o 3 - t) ∧ 0 ≤ g ∧ g ≤ 6 ∧ ((s = 1 ∧ e = 1) ∨ (s = ψ a 44 ∧ e = 0)) ∧ (∀ j, j < n → btc ψ o t (r + 2 + j) → btc ψ o (ψ o 3) (r + 2 + j))
    ∧ ψ' = jU (jU (jU (jU (jU ψ r 85 v) o 11 (ψ o 11 + g)) o 3 t) a 44 s) r 90 (ψ r 90 + e))
theorem m_48 {ψ : jSt} {r : Nat} (hr : jR2 r) (n : Nat) (hn : ψ r 81 = (n : Int)) (hn8 : n ≤ 8) {a o : Nat} (ha : jMove a) (ho : jBar o) (h42 : 1 ≤ ψ a 42 ∧ ψ a 42 ≤ 6) (h41 : 0 ≤ ψ a 41 ∧ ψ a 41 ≤ 120) (h3 : 0 ≤ ψ o 3 ∧ ψ o 3 ≤ 120) (h11 : 0 ≤ ψ o 11 ∧ ψ o 11 ≤ 40000) (h93 : 0 ≤ ψ r 93 ∧ ψ r 93 ≤ 40000) (h90 : 0 ≤ ψ r 90 ∧ ψ r 90 ≤ 40000) (h85 : -50 ≤ ψ r 85 ∧ ψ r 85 ≤ 50) (hG : jG ψ) : JZ Eq xs L0 48 0 ([some (.ref r), some (.ref a), some (.ref o)] ++ List.replicate 2 none) [] ψ (oV (q48 ψ r a o n)) := by
  have hrig := jR_rig hr
  have hr' : r = 2 ∨ r = 61 := hr
  have hal := jSk_lt ha
  have hol := jSk_lt ho
  have h17 : ∀ φ v, φ = jU ψ r 85 v → -60000 ≤ v → v ≤ 60000 → (v = ψ r 85 ∨ v = ψ r 85 - 1) → jG φ → JZ Eq xs L0 48 17 (([some (.ref r), some (.ref a), some (.ref o)] ++ List.replicate 2 none)) [] φ (oV (q48 ψ r a o n)) := by
    intro φ v hφ hv1 hv2 hv3 hG
    have e42 : φ a 42 = ψ a 42 := by rw [hφ]; exact jU_nk (by decide)
    have e41 : φ a 41 = ψ a 41 := by rw [hφ]; exact jU_nk (by decide)
    have e44 : φ a 44 = ψ a 44 := by rw [hφ]; exact jU_nk (by decide)
    have e3 : φ o 3 = ψ o 3 := by rw [hφ]; exact jU_nk (by decide)
    have e0 : φ o 0 = ψ o 0 := by rw [hφ]; exact jU_nk (by decide)
    have e11 : φ o 11 = ψ o 11 := by rw [hφ]; exact jU_nk (by decide)
    have e93 : φ r 93 = ψ r 93 := by rw [hφ]; exact jU_nk (by decide)
    have e90 : φ r 90 = ψ r 90 := by rw [hφ]; exact jU_nk (by decide)
    have e81 : φ r 81 = ψ r 81 := by rw [hφ]; exact jU_nk (by decide)
    have eb : ∀ (t : Int) (x : Nat), btc φ o t x ↔ btc ψ o t x := fun t x => btc_own (fun a' k' _ hk => by rw [hφ]; exact jU_nk (by omega))
    refine JZ_aload_n i_48_17 (by rfl) ?_
    refine JZ_gB (key := 42) i_48_18 f_48_169 (by assumption) (by rfl) rfl hG (fun u18 v18 => ?_)
    refine JZ_ineg i_48_21 ?_
    refine JZ_aload_n i_48_22 (by rfl) ?_
    refine JZ_gB (key := 42) i_48_23 f_48_169 (by assumption) (by rfl) rfl hG (fun u23 v23 => ?_)
    refine JZ_aload_n i_48_26 (by rfl) ?_
    refine JZ_gB (key := 41) i_48_27 f_48_172 (by assumption) (by rfl) rfl hG (fun u27 v27 => ?_)
    refine JZ_aload_n i_48_30 (by rfl) ?_
    refine JZ_gB (key := 3) i_48_31 f_48_107 (by assumption) (by rfl) rfl hG (fun u31 v31 => ?_)
    refine JZ_isub i_48_34 ?_
    refine JZ_minz i_48_35 v_48_175 (Nat.le_of_ble_eq_true rfl) (by decide +kernel) (by omega) (by omega) (fun z35 q35 => ?_)
    refine JZ_maxz i_48_38 v_48_181 (Nat.le_of_ble_eq_true rfl) (by decide +kernel) (by omega) (by omega) (fun z38 q38 => ?_)
    refine JZ_istore_n i_48_41 (by rw [l_48]; decide) (by rfl) ?_
    refine JZ_aload_n i_48_42 (by rfl) ?_
    refine JZ_gB (key := 3) i_48_43 f_48_107 (by assumption) (by rfl) rfl hG (fun u43 v43 => ?_)
    refine JZ_iload_n i_48_46 (by rfl) ?_
    refine JZ_iadd i_48_47 ?_
    refine JZ_istore i_48_48 (by rw [l_48]; decide) (by rfl) ?_
    refine JZ_aload_n i_48_50 (by rfl) ?_
    refine JZ_aload_n i_48_51 (by rfl) ?_
    refine JZ_iload i_48_52 (by rfl) ?_
    refine JZ_v2P (j := 1) i_48_54 v_48_184 (by decide +kernel) rfl rfl (Nat.le_of_ble_eq_true rfl) (by assumption) (by first | rfl | (simp only [List.all_cons, List.all_nil, g_ok, Bool.and_true, Bool.true_and, Bool.and_eq_true, decide_eq_true_eq] <;> first | assumption | exact ⟨by assumption, by assumption⟩ | exact ⟨by assumption, by assumption, by assumption⟩ | omega)) rfl (m_46 hr n (by rw [e81]; exact hn) hn8 ho (by omega) hG) (fun x1 hQ1 => ?_)
    obtain ⟨hq54, hT⟩ := hQ1
    refine JZ_ifeq (tg := 84) i_48_57 (by decide) (by omega) (fun h57 => ?_) (fun h57 => ?_)
    · have hT := hT (by omega)
      have hT : ∀ j, j < n → btc ψ o (φ o 3 + z38) (r + 2 + j) → btc ψ o (ψ o 3) (r + 2 + j) := fun j hj hb => by rw [← e3]; exact (eb _ _).mp (hT j hj ((eb _ _).mpr hb))
      refine JZ_aload_n i_48_84 (by rfl) ?_
      refine JZ_iload i_48_85 (by rfl) ?_
      refine JZ_v1V (j := 0) i_48_87 v_48_191 (by decide +kernel) rfl rfl (Nat.le_of_ble_eq_true rfl) (by assumption) rfl rfl (m_47 ho (by omega) (by omega) (by omega) hG) (fun ψ1 hQ1 => ?_)
      obtain ⟨g, hg1, hg2, hψ1, hG⟩ := hQ1
      have f3 : ψ1 o 3 = φ o 3 + z38 := by rw [hψ1]; exact jU_eq _ _ _ _
      have f41 : ψ1 a 41 = φ a 41 := by rw [hψ1, jU_nk (by decide), jU_nk (by decide)]
      have e44x : ψ1 a 44 = φ a 44 := by rw [hψ1, jU_nk (by decide), jU_nk (by decide)]
      have e90x : ψ1 r 90 = φ r 90 := by rw [hψ1, jU_nk (by decide), jU_nk (by decide)]
      refine JZ_aload_n i_48_90 (by rfl) ?_
      refine JZ_gB (key := 3) i_48_91 f_48_107 (by assumption) (by rfl) rfl hG (fun u91 v91 => ?_)
      refine JZ_aload_n i_48_94 (by rfl) ?_
      refine JZ_gB (key := 41) i_48_95 f_48_172 (by assumption) (by rfl) rfl hG (fun u95 v95 => ?_)
      refine JZ_icne (tg := 116) i_48_98 (by decide) (by omega) (by omega) (fun h98 => ?_) (fun h98 => ?_)
      · refine JZ_vret i_48_116 r_48 ?_
        first
          | exact ⟨hG, v, hv1, hv2, hv3, Or.inr ⟨_, g, 1, 1, by omega, by omega, by omega, by omega, by omega, by omega, hT, by rw [e108, e90x, e90, hψ1, e11, hφ]⟩⟩
          | exact ⟨hG, v, hv1, hv2, hv3, Or.inr ⟨_, g, ψ a 44, 0, by omega, by omega, by omega, by omega, by omega, by omega, hT, by
              have hX : jU (jU ψ1 a 44 (ψ a 44)) r 90 (ψ r 90 + 0) = ψ1 := by
                rw [jU_id (show ψ1 a 44 = ψ a 44 by rw [e44x, e44]), jU_id (show ψ1 r 90 = ψ r 90 + 0 by rw [e90x, e90, Int.add_zero])]
              refine hX.symm.trans ?_
              rw [hψ1, e11, hφ]⟩⟩
      refine JZ_aload_n i_48_101 (by rfl) ?_
      refine JZ_iconst i_48_102 ?_
      refine JZ_pB (key := 44) i_48_103 f_48_133 (by assumption) (by rfl) rfl (Or.inl t_2_4) (by rfl) hG (by omega) (fun hG => ?_)
      have e108 : jU ψ1 a 44 1 r 90 = ψ1 r 90 := jU_nk (by decide)
      refine JZ_aload_n i_48_106 (by rfl) ?_
      refine JZ_dup i_48_107 rfl ?_
      refine JZ_gB (key := 90) i_48_108 f_48_63 (by assumption) (by rfl) rfl hG (fun u108 v108 => ?_)
      refine JZ_iconst i_48_111 ?_
      refine JZ_iadd i_48_112 ?_
      refine JZ_pB (key := 90) i_48_113 f_48_63 (by assumption) (by rfl) rfl (Or.inl t_4_10) (by rfl) hG (by omega) (fun hG => ?_)
      refine JZ_vret i_48_116 r_48 ?_
      first
        | exact ⟨hG, v, hv1, hv2, hv3, Or.inr ⟨_, g, 1, 1, by omega, by omega, by omega, by omega, by omega, by omega, hT, by rw [e108, e90x, e90, hψ1, e11, hφ]⟩⟩
        | exact ⟨hG, v, hv1, hv2, hv3, Or.inr ⟨_, g, ψ a 44, 0, by omega, by omega, by omega, by omega, by omega, by omega, hT, by
            have hX : jU (jU ψ1 a 44 (ψ a 44)) r 90 (ψ r 90 + 0) = ψ1 := by
              rw [jU_id (show ψ1 a 44 = ψ a 44 by rw [e44x, e44]), jU_id (show ψ1 r 90 = ψ r 90 + 0 by rw [e90x, e90, Int.add_zero])]
            refine hX.symm.trans ?_
            rw [hψ1, e11, hφ]⟩⟩
    refine JZ_aload_n i_48_60 (by rfl) ?_
    refine JZ_iconst i_48_61 ?_
    refine JZ_pB (key := 88) i_48_62 f_48_56 (by assumption) (by rfl) rfl (Or.inr ⟨t_4_8, by omega⟩) (by rfl) hG (by omega) (fun hG => ?_)
    have e67 : jU φ r 88 1 r 93 = φ r 93 := jU_nk (by decide)
    refine JZ_aload_n i_48_65 (by rfl) ?_
    refine JZ_dup i_48_66 rfl ?_
    refine JZ_gB (key := 93) i_48_67 f_48_72 (by assumption) (by rfl) rfl hG (fun u67 v67 => ?_)
    refine JZ_iconst i_48_70 ?_
    refine JZ_iadd i_48_71 ?_
    refine JZ_pB (key := 93) i_48_72 f_48_72 (by assumption) (by rfl) rfl (Or.inl t_4_13) (by rfl) hG (by omega) (fun hG => ?_)
    have e77 : jU (jU φ r 88 1) r 93 (jU φ r 88 1 r 93 + 1) o 0 = φ o 0 := by rw [jU_nk (by decide), jU_nk (by decide)]
    refine JZ_aload_n i_48_75 (by rfl) ?_
    refine JZ_aload_n i_48_76 (by rfl) ?_
    refine JZ_gB (key := 0) i_48_77 f_48_188 (by assumption) (by rfl) rfl hG (fun u77 v77 => ?_)
    refine JZ_pB (key := 97) i_48_80 f_48_18 (by assumption) (by rfl) rfl (Or.inl t_4_17) (by rfl) hG (by omega) (fun hG => ?_)
    refine JZ_vret i_48_83 r_48 ?_
    exact ⟨hG, v, hv1, hv2, hv3, Or.inl (by rw [e77, e67, e93, e0, hφ])⟩
  refine JZ_aload_n i_48_0 (by rfl) ?_
  refine JZ_gB (key := 1) i_48_1 f_48_159 (by assumption) (by rfl) rfl hG (fun u1 v1 => ?_)
  refine JZ_ifne (tg := 17) i_48_4 (by decide) (by omega) (fun h4 => ?_) (fun h4 => ?_)
  · first | exact h17 ψ (ψ r 85) (jU_id rfl).symm (by omega) (by omega) (Or.inl rfl) hG | exact h17 _ _ rfl (by omega) (by omega) (Or.inr rfl) hG
  refine JZ_aload_n i_48_7 (by rfl) ?_
  refine JZ_dup i_48_8 rfl ?_
  refine JZ_gB (key := 85) i_48_9 f_48_50 (by assumption) (by rfl) rfl hG (fun u9 v9 => ?_)
  refine JZ_iconst i_48_12 ?_
  refine JZ_isub i_48_13 ?_
  refine JZ_pB (key := 85) i_48_14 f_48_50 (by assumption) (by rfl) rfl (Or.inl t_4_5) (by rfl) hG (by omega) (fun hG => ?_)
  first | exact h17 ψ (ψ r 85) (jU_id rfl).symm (by omega) (by omega) (Or.inl rfl) hG | exact h17 _ _ rfl (by omega) (by omega) (Or.inr rfl) hG
def q50 (ψ : jSt) (r : Nat) (ψ' : jSt) : Prop := jG ψ' ∧ ∃ d e : Int, (d = 0 ∨ d = 1) ∧ (e = 0 ∨ e = 1) ∧ ψ' = jU (jU ψ r 94 (ψ r 94 + d)) r 95 (ψ r 95 + e)
theorem m_50 {ψ : jSt} {r : Nat} (hr : jR2 r) {o : Nat} {f : Int} (ho : jBar o) (hf : 0 ≤ f ∧ f ≤ 120) (h3 : 0 ≤ ψ o 3 ∧ ψ o 3 ≤ 120) (h94 : 0 ≤ ψ r 94 ∧ ψ r 94 ≤ 40000) (h95 : 0 ≤ ψ r 95 ∧ ψ r 95 ≤ 40000) (hG : jG ψ) : JZ Eq xs L0 50 0 ([some (.ref r), some (.ref o), some (.int (jI f))] ++ List.replicate 1 none) [] ψ (oV (q50 ψ r)) := by
  have hrig := jR_rig hr
  have hr' : r = 2 ∨ r = 61 := hr
  have hol := jSk_lt ho
  have h55 : ∀ φ (d w : Int), (d = 0 ∨ d = 1) → φ = jU ψ r 94 (ψ r 94 + d) → jG φ → JZ Eq xs L0 50 55 [some (.ref r), some (.ref o), some (.int (jI f)), some (.int (jI w))] [] φ (oV (q50 ψ r)) := by
    intro φ d w hd hφ hG
    have e3 : φ o 3 = ψ o 3 := by rw [hφ]; exact jU_nk (by decide)
    have e8 : φ o 8 = ψ o 8 := by rw [hφ]; exact jU_nk (by decide)
    have e95 : φ r 95 = ψ r 95 := by rw [hφ]; exact jU_nk (by decide)
    refine JZ_aload_n i_50_55 (by rfl) ?_
    refine JZ_gB (key := 3) i_50_56 f_50_107 (by assumption) (by rfl) rfl hG (fun u56 v56 => ?_)
    refine JZ_iload_n i_50_59 (by rfl) ?_
    refine JZ_icge (tg := 89) i_50_60 (by decide) (by omega) (by omega) (fun h60 => ?_) (fun h60 => ?_)
    · refine JZ_vret i_50_89 r_50 ?_
      first | exact ⟨hG, d, 1, hd, Or.inr rfl, by rw [e95, hφ]⟩ | exact ⟨hG, d, 0, hd, Or.inl rfl, by rw [jU_id (by rw [Int.add_zero, ← hφ, e95])]; exact hφ⟩
    refine JZ_aload_n i_50_63 (by rfl) ?_
    refine JZ_gB (key := 3) i_50_64 f_50_107 (by assumption) (by rfl) rfl hG (fun u64 v64 => ?_)
    refine JZ_bipush i_50_67 (by decide) ?_
    refine JZ_icgt (tg := 89) i_50_69 (by decide) (by omega) (by omega) (fun h69 => ?_) (fun h69 => ?_)
    · refine JZ_vret i_50_89 r_50 ?_
      first | exact ⟨hG, d, 1, hd, Or.inr rfl, by rw [e95, hφ]⟩ | exact ⟨hG, d, 0, hd, Or.inl rfl, by rw [jU_id (by rw [Int.add_zero, ← hφ, e95])]; exact hφ⟩
    refine JZ_aload_n i_50_72 (by rfl) ?_
    refine JZ_gB (key := 8) i_50_73 f_50_162 (by assumption) (by rfl) rfl hG (fun u73 v73 => ?_)
    refine JZ_ifeq (tg := 89) i_50_76 (by decide) (by omega) (fun h76 => ?_) (fun h76 => ?_)
    · refine JZ_vret i_50_89 r_50 ?_
      first | exact ⟨hG, d, 1, hd, Or.inr rfl, by rw [e95, hφ]⟩ | exact ⟨hG, d, 0, hd, Or.inl rfl, by rw [jU_id (by rw [Int.add_zero, ← hφ, e95])]; exact hφ⟩
    refine JZ_aload_n i_50_79 (by rfl) ?_
    refine JZ_dup i_50_80 rfl ?_
    refine JZ_gB (key := 95) i_50_81 f_50_78 (by assumption) (by rfl) rfl hG (fun u81 v81 => ?_)
    refine JZ_iconst i_50_84 ?_
    refine JZ_iadd i_50_85 ?_
    refine JZ_pB (key := 95) i_50_86 f_50_78 (by assumption) (by rfl) rfl (Or.inl t_4_15) (by rfl) hG (by omega) (fun hG => ?_)
    refine JZ_vret i_50_89 r_50 ?_
    first | exact ⟨hG, d, 1, hd, Or.inr rfl, by rw [e95, hφ]⟩ | exact ⟨hG, d, 0, hd, Or.inl rfl, by rw [jU_id (by rw [Int.add_zero, ← hφ, e95])]; exact hφ⟩
  refine JZ_aload_n i_50_0 (by rfl) ?_
  refine JZ_gB (key := 3) i_50_1 f_50_107 (by assumption) (by rfl) rfl hG (fun u1 v1 => ?_)
  refine JZ_iload_n i_50_4 (by rfl) ?_
  refine JZ_icge (tg := 17) i_50_5 (by decide) (by omega) (by omega) (fun h5 => ?_) (fun h5 => ?_)
  · refine JZ_aload_n i_50_17 (by rfl) ?_
    refine JZ_gB (key := 3) i_50_18 f_50_107 (by assumption) (by rfl) rfl hG (fun u18 v18 => ?_)
    refine JZ_iload_n i_50_21 (by rfl) ?_
    refine JZ_isub i_50_22 ?_
    refine JZ_istore_n i_50_23 (by rw [l_50]; decide) (by rfl) ?_
    refine JZ_aload_n i_50_24 (by rfl) ?_
    refine JZ_gB (key := 3) i_50_25 f_50_107 (by assumption) (by rfl) rfl hG (fun u25 v25 => ?_)
    refine JZ_ifeq (tg := 40) i_50_28 (by decide) (by omega) (fun h28 => ?_) (fun h28 => ?_)
    · refine JZ_iload_n i_50_40 (by rfl) ?_
      refine JZ_iconst i_50_41 ?_
      refine JZ_iclt (tg := 55) i_50_42 (by decide) (by omega) (by omega) (fun h42 => ?_) (fun h42 => ?_)
      · first | exact JZ_fg (h55 ψ 0 _ (Or.inl rfl) (jU_id (by omega)).symm hG) (by repeat (first | exact trivial | refine ⟨rfl, ?_⟩)) | exact JZ_fg (h55 _ 1 _ (Or.inr rfl) rfl hG) (by repeat (first | exact trivial | refine ⟨rfl, ?_⟩))
      refine JZ_aload_n i_50_45 (by rfl) ?_
      refine JZ_dup i_50_46 rfl ?_
      refine JZ_gB (key := 94) i_50_47 f_50_75 (by assumption) (by rfl) rfl hG (fun u47 v47 => ?_)
      refine JZ_iconst i_50_50 ?_
      refine JZ_iadd i_50_51 ?_
      refine JZ_pB (key := 94) i_50_52 f_50_75 (by assumption) (by rfl) rfl (Or.inl t_4_14) (by rfl) hG (by omega) (fun hG => ?_)
      first | exact JZ_fg (h55 ψ 0 _ (Or.inl rfl) (jU_id (by omega)).symm hG) (by repeat (first | exact trivial | refine ⟨rfl, ?_⟩)) | exact JZ_fg (h55 _ 1 _ (Or.inr rfl) rfl hG) (by repeat (first | exact trivial | refine ⟨rfl, ?_⟩))
    refine JZ_aload_n i_50_31 (by rfl) ?_
    refine JZ_gB (key := 3) i_50_32 f_50_107 (by assumption) (by rfl) rfl hG (fun u32 v32 => ?_)
    refine JZ_bipush i_50_35 (by decide) ?_
    refine JZ_icne (tg := 55) i_50_37 (by decide) (by omega) (by omega) (fun h37 => ?_) (fun h37 => ?_)
    · first | exact JZ_fg (h55 ψ 0 _ (Or.inl rfl) (jU_id (by omega)).symm hG) (by repeat (first | exact trivial | refine ⟨rfl, ?_⟩)) | exact JZ_fg (h55 _ 1 _ (Or.inr rfl) rfl hG) (by repeat (first | exact trivial | refine ⟨rfl, ?_⟩))
    refine JZ_iload_n i_50_40 (by rfl) ?_
    refine JZ_iconst i_50_41 ?_
    refine JZ_iclt (tg := 55) i_50_42 (by decide) (by omega) (by omega) (fun h42 => ?_) (fun h42 => ?_)
    · first | exact JZ_fg (h55 ψ 0 _ (Or.inl rfl) (jU_id (by omega)).symm hG) (by repeat (first | exact trivial | refine ⟨rfl, ?_⟩)) | exact JZ_fg (h55 _ 1 _ (Or.inr rfl) rfl hG) (by repeat (first | exact trivial | refine ⟨rfl, ?_⟩))
    refine JZ_aload_n i_50_45 (by rfl) ?_
    refine JZ_dup i_50_46 rfl ?_
    refine JZ_gB (key := 94) i_50_47 f_50_75 (by assumption) (by rfl) rfl hG (fun u47 v47 => ?_)
    refine JZ_iconst i_50_50 ?_
    refine JZ_iadd i_50_51 ?_
    refine JZ_pB (key := 94) i_50_52 f_50_75 (by assumption) (by rfl) rfl (Or.inl t_4_14) (by rfl) hG (by omega) (fun hG => ?_)
    first | exact JZ_fg (h55 ψ 0 _ (Or.inl rfl) (jU_id (by omega)).symm hG) (by repeat (first | exact trivial | refine ⟨rfl, ?_⟩)) | exact JZ_fg (h55 _ 1 _ (Or.inr rfl) rfl hG) (by repeat (first | exact trivial | refine ⟨rfl, ?_⟩))
  refine JZ_iload_n i_50_8 (by rfl) ?_
  refine JZ_aload_n i_50_9 (by rfl) ?_
  refine JZ_gB (key := 3) i_50_10 f_50_107 (by assumption) (by rfl) rfl hG (fun u10 v10 => ?_)
  refine JZ_isub i_50_13 ?_
  refine JZ_goto (tg := 23) i_50_14 (by decide) ?_
  refine JZ_istore_n i_50_23 (by rw [l_50]; decide) (by rfl) ?_
  refine JZ_aload_n i_50_24 (by rfl) ?_
  refine JZ_gB (key := 3) i_50_25 f_50_107 (by assumption) (by rfl) rfl hG (fun u25 v25 => ?_)
  refine JZ_ifeq (tg := 40) i_50_28 (by decide) (by omega) (fun h28 => ?_) (fun h28 => ?_)
  · refine JZ_iload_n i_50_40 (by rfl) ?_
    refine JZ_iconst i_50_41 ?_
    refine JZ_iclt (tg := 55) i_50_42 (by decide) (by omega) (by omega) (fun h42 => ?_) (fun h42 => ?_)
    · first | exact JZ_fg (h55 ψ 0 _ (Or.inl rfl) (jU_id (by omega)).symm hG) (by repeat (first | exact trivial | refine ⟨rfl, ?_⟩)) | exact JZ_fg (h55 _ 1 _ (Or.inr rfl) rfl hG) (by repeat (first | exact trivial | refine ⟨rfl, ?_⟩))
    refine JZ_aload_n i_50_45 (by rfl) ?_
    refine JZ_dup i_50_46 rfl ?_
    refine JZ_gB (key := 94) i_50_47 f_50_75 (by assumption) (by rfl) rfl hG (fun u47 v47 => ?_)
    refine JZ_iconst i_50_50 ?_
    refine JZ_iadd i_50_51 ?_
    refine JZ_pB (key := 94) i_50_52 f_50_75 (by assumption) (by rfl) rfl (Or.inl t_4_14) (by rfl) hG (by omega) (fun hG => ?_)
    first | exact JZ_fg (h55 ψ 0 _ (Or.inl rfl) (jU_id (by omega)).symm hG) (by repeat (first | exact trivial | refine ⟨rfl, ?_⟩)) | exact JZ_fg (h55 _ 1 _ (Or.inr rfl) rfl hG) (by repeat (first | exact trivial | refine ⟨rfl, ?_⟩))
  refine JZ_aload_n i_50_31 (by rfl) ?_
  refine JZ_gB (key := 3) i_50_32 f_50_107 (by assumption) (by rfl) rfl hG (fun u32 v32 => ?_)
  refine JZ_bipush i_50_35 (by decide) ?_
  refine JZ_icne (tg := 55) i_50_37 (by decide) (by omega) (by omega) (fun h37 => ?_) (fun h37 => ?_)
  · first | exact JZ_fg (h55 ψ 0 _ (Or.inl rfl) (jU_id (by omega)).symm hG) (by repeat (first | exact trivial | refine ⟨rfl, ?_⟩)) | exact JZ_fg (h55 _ 1 _ (Or.inr rfl) rfl hG) (by repeat (first | exact trivial | refine ⟨rfl, ?_⟩))
  refine JZ_iload_n i_50_40 (by rfl) ?_
  refine JZ_iconst i_50_41 ?_
  refine JZ_iclt (tg := 55) i_50_42 (by decide) (by omega) (by omega) (fun h42 => ?_) (fun h42 => ?_)
  · first | exact JZ_fg (h55 ψ 0 _ (Or.inl rfl) (jU_id (by omega)).symm hG) (by repeat (first | exact trivial | refine ⟨rfl, ?_⟩)) | exact JZ_fg (h55 _ 1 _ (Or.inr rfl) rfl hG) (by repeat (first | exact trivial | refine ⟨rfl, ?_⟩))
  refine JZ_aload_n i_50_45 (by rfl) ?_
  refine JZ_dup i_50_46 rfl ?_
  refine JZ_gB (key := 94) i_50_47 f_50_75 (by assumption) (by rfl) rfl hG (fun u47 v47 => ?_)
  refine JZ_iconst i_50_50 ?_
  refine JZ_iadd i_50_51 ?_
  refine JZ_pB (key := 94) i_50_52 f_50_75 (by assumption) (by rfl) rfl (Or.inl t_4_14) (by rfl) hG (by omega) (fun hG => ?_)
  first | exact JZ_fg (h55 ψ 0 _ (Or.inl rfl) (jU_id (by omega)).symm hG) (by repeat (first | exact trivial | refine ⟨rfl, ?_⟩)) | exact JZ_fg (h55 _ 1 _ (Or.inr rfl) rfl hG) (by repeat (first | exact trivial | refine ⟨rfl, ?_⟩))
def q51 (ψ : jSt) (r o n : Nat) (ψ' : jSt) : Prop := jG ψ' ∧ ∃ g t d e : Int, 0 ≤ g ∧ g ≤ 8 ∧ (t = ψ o 3 + g ∨ t = ψ o 3 - g) ∧ 0 ≤ t ∧ t ≤ 120 ∧ (d = 0 ∨ d = 1) ∧ (e = 0 ∨ e = 1) ∧ (∀ j, j < n → btc ψ o t (r + 2 + j) → btc ψ o (ψ o 3) (r + 2 + j))
    ∧ ψ' = jU (jU (jU (jU ψ o 11 (ψ o 11 + g)) o 3 t) r 94 (ψ r 94 + d)) r 95 (ψ r 95 + e)
def i51 (ψ : jSt) (r o n : Nat) (s : Int) (i : Nat) (φ : jSt) : Prop := jG φ ∧ i ≤ 8 ∧ 0 ≤ ψ o 3 + s * i ∧ ψ o 3 + s * i ≤ 120 ∧ φ = jU (jU ψ o 11 (ψ o 11 + i)) o 3 (ψ o 3 + s * i) ∧ ∀ j, j < n → btc ψ o (ψ o 3 + s * i) (r + 2 + j) → btc ψ o (ψ o 3) (r + 2 + j)
theorem m_51 {ψ : jSt} {r : Nat} (hr : jR2 r) (n : Nat) (hn : ψ r 81 = (n : Int)) (hn8 : n ≤ 8) {o : Nat} (ho : jBar o) (h3 : 0 ≤ ψ o 3 ∧ ψ o 3 ≤ 120) (h11 : 0 ≤ ψ o 11 ∧ ψ o 11 ≤ 39000) (h94 : 0 ≤ ψ r 94 ∧ ψ r 94 ≤ 40000) (h95 : 0 ≤ ψ r 95 ∧ ψ r 95 ≤ 40000) (hG : jG ψ) : JZ Eq xs L0 51 0 ([some (.ref r), some (.ref o)] ++ List.replicate 5 none) [] ψ (oV (q51 ψ r o n)) := by
  have hrig := jR_rig hr
  have hr' : r = 2 ∨ r = 61 := hr
  have hol := jSk_lt ho
  have hd := bdf_le hG o
  refine JZ_bipush i_51_0 (by decide) ?_
  refine JZ_aload_n i_51_2 (by rfl) ?_
  refine JZ_v0P (j := 1) i_51_3 v_51_156 (by decide +kernel) rfl rfl (Nat.le_of_ble_eq_true rfl) (by assumption) rfl rfl (m_44 ho hG) (fun x1 hq1 => ?_)
  refine JZ_bipush i_51_6 (by decide) ?_
  refine JZ_iadd i_51_8 ?_
  refine JZ_bipush i_51_9 (by decide) ?_
  refine JZ_idivI i_51_11 (by omega) (by omega) (by omega) (by omega) ?_
  refine JZ_minz i_51_12 v_51_175 (Nat.le_of_ble_eq_true rfl) (by decide +kernel) (by omega) (by omega) (fun z12 q12 => ?_)
  obtain ⟨m, hm⟩ := Int.eq_ofNat_of_zero_le (show 0 ≤ z12 by omega)
  refine JZ_istore_n i_51_15 (by rw [l_51]; decide) (by rfl) ?_
  refine JZ_aload_n i_51_16 (by rfl) ?_
  refine JZ_v0P (j := 0) i_51_17 v_51_198 (by decide +kernel) rfl rfl (Nat.le_of_ble_eq_true rfl) (by assumption) rfl rfl (m_17 ho hG) (fun x2 hq17 => ?_)
  have h28 : ∀ s : Int, (s = 1 ∨ s = -1) → JZ Eq xs L0 51 28 [some (.ref r), some (.ref o), some (.int (jI z12)), none, none, none, none] [.int (jI s)] ψ (oV (q51 ψ r o n)) := by
    intro s hs
    refine JZ_istore_n i_51_28 (by rw [l_51]; decide) (by rfl) ?_
    refine JZ_aload_n i_51_29 (by rfl) ?_
    refine JZ_gB (key := 3) i_51_30 f_51_107 (by assumption) (by rfl) rfl hG (fun u30 v30 => ?_)
    refine JZ_istore i_51_33 (by rw [l_51]; decide) (by rfl) ?_
    refine JZ_iconst i_51_35 ?_
    have h89 : ∀ (i : Nat) φ, i51 ψ r o n s i φ → JZ Eq xs L0 51 89 [some (.ref r), some (.ref o), none, none, some (.int (jI (ψ o 3))), none, none] [] φ (oV (q51 ψ r o n)) := by
      intro i φ hI
      obtain ⟨hG, hi8, ht0, ht1, hφ, hT⟩ := hI
      have e3 : φ o 3 = ψ o 3 + s * i := by rw [hφ]; exact jU_eq _ _ _ _
      have e11 : φ o 11 = ψ o 11 + i := by rw [hφ, jU_nk (by decide)]; exact jU_eq _ _ _ _
      have e81 : φ r 81 = ψ r 81 := by rw [hφ, jU_nk (by decide), jU_nk (by decide)]
      have e94 : φ r 94 = ψ r 94 := by rw [hφ, jU_nk (by decide), jU_nk (by decide)]
      have e95 : φ r 95 = ψ r 95 := by rw [hφ, jU_nk (by decide), jU_nk (by decide)]
      have eb : ∀ (t : Int) (x : Nat), btc φ o t x ↔ btc ψ o t x := fun t x => btc_own (fun a' k' hk hk2 => by rw [hφ]; unfold jU; rw [if_neg (by omega), if_neg (by omega)])
      refine JZ_aload_n i_51_89 (by rfl) ?_
      refine JZ_aload_n i_51_90 (by rfl) ?_
      refine JZ_iload i_51_91 (by rfl) ?_
      refine JZ_v2V (j := 1) i_51_93 v_51_201 (by decide +kernel) rfl rfl (Nat.le_of_ble_eq_true rfl) (by assumption) (by first | rfl | (simp only [List.all_cons, List.all_nil, g_ok, Bool.and_true, Bool.true_and, Bool.and_eq_true, decide_eq_true_eq] <;> first | assumption | exact ⟨by assumption, by assumption⟩ | exact ⟨by assumption, by assumption, by assumption⟩ | omega)) rfl (m_50 hr ho (by omega) (by omega) (by omega) (by omega) hG) (fun ψ5 hQ5 => ?_)
      obtain ⟨hG, hq93⟩ := hQ5
      refine JZ_vret i_51_96 r_51 ?_
      obtain ⟨d, e, hd, he, hψ2⟩ := hq93
      rw [e94, e95, hφ] at hψ2
      exact ⟨hG, i, ψ o 3 + s * i, d, e, by omega, by omega, by rcases hs with rfl | rfl <;> omega, ht0, ht1, hd, he, hT, hψ2⟩
    refine JZ_istore i_51_36 (by rw [l_51]; decide) (by rfl) ?_
    refine JZ_fg (L' := [some (.ref r), some (.ref o), some (.int (jI z12)), some (.int (jI s)), some (.int (jI (ψ o 3))), some (.int (jI (((0 : Nat) : Int)))), none]) ?_ (by repeat (first | exact trivial | refine ⟨rfl, ?_⟩))
    refine JZ_for (σ := Unit) (N := m) (I := fun i _ φ => i51 ψ r o n s i φ) (Lf := fun i _ => [some (.ref r), some (.ref o), some (.int (jI z12)), some (.int (jI s)), some (.int (jI (ψ o 3))), some (.int (jI ((i : Int)))), none]) ?_ ?_ m 0 () ψ (by omega) ?_
    · intro i u φ hi hI hK
      obtain ⟨hG, hi8, ht0, ht1, hφ, hT⟩ := hI
      have e3 : φ o 3 = ψ o 3 + s * i := by rw [hφ]; exact jU_eq _ _ _ _
      have e11 : φ o 11 = ψ o 11 + i := by rw [hφ, jU_nk (by decide)]; exact jU_eq _ _ _ _
      have e81 : φ r 81 = ψ r 81 := by rw [hφ, jU_nk (by decide), jU_nk (by decide)]
      have e94 : φ r 94 = ψ r 94 := by rw [hφ, jU_nk (by decide), jU_nk (by decide)]
      have e95 : φ r 95 = ψ r 95 := by rw [hφ, jU_nk (by decide), jU_nk (by decide)]
      have eb : ∀ (t : Int) (x : Nat), btc φ o t x ↔ btc ψ o t x := fun t x => btc_own (fun a' k' hk hk2 => by rw [hφ]; unfold jU; rw [if_neg (by omega), if_neg (by omega)])
      refine JZ_iload i_51_38 (by rfl) ?_
      refine JZ_iload_n i_51_40 (by rfl) ?_
      refine JZ_icge (tg := 89) i_51_41 (by decide) (by omega) (by omega) (fun h41 => ?_) (fun h41 => ?_)
      · exact JZ_fg (h89 _ _ ⟨hG, hi8, ht0, ht1, hφ, hT⟩) (by repeat (first | exact trivial | refine ⟨rfl, ?_⟩))
      refine JZ_aload_n i_51_44 (by rfl) ?_
      refine JZ_gB (key := 3) i_51_45 f_51_107 (by assumption) (by rfl) rfl hG (fun u45 v45 => ?_)
      refine JZ_iload_n i_51_48 (by rfl) ?_
      refine JZ_iadd i_51_49 ?_
      refine JZ_istore i_51_50 (by rw [l_51]; decide) (by rfl) ?_
      refine JZ_iload i_51_52 (by rfl) ?_
      refine JZ_iflt (tg := 89) i_51_54 (by decide) (by omega) (fun h54 => ?_) (fun h54 => ?_)
      · exact JZ_fg (h89 _ _ ⟨hG, hi8, ht0, ht1, hφ, hT⟩) (by repeat (first | exact trivial | refine ⟨rfl, ?_⟩))
      refine JZ_iload i_51_57 (by rfl) ?_
      refine JZ_bipush i_51_59 (by decide) ?_
      refine JZ_icgt (tg := 89) i_51_61 (by decide) (by omega) (by omega) (fun h61 => ?_) (fun h61 => ?_)
      · exact JZ_fg (h89 _ _ ⟨hG, hi8, ht0, ht1, hφ, hT⟩) (by repeat (first | exact trivial | refine ⟨rfl, ?_⟩))
      refine JZ_aload_n i_51_64 (by rfl) ?_
      refine JZ_aload_n i_51_65 (by rfl) ?_
      refine JZ_iload i_51_66 (by rfl) ?_
      refine JZ_v2P (j := 1) i_51_68 v_51_184 (by decide +kernel) rfl rfl (Nat.le_of_ble_eq_true rfl) (by assumption) (by first | rfl | (simp only [List.all_cons, List.all_nil, g_ok, Bool.and_true, Bool.true_and, Bool.and_eq_true, decide_eq_true_eq] <;> first | assumption | exact ⟨by assumption, by assumption⟩ | exact ⟨by assumption, by assumption, by assumption⟩ | omega)) rfl (m_46 hr n (by rw [e81]; exact hn) hn8 ho (by omega) hG) (fun x3 hQ3 => ?_)
      obtain ⟨hq68, hT2⟩ := hQ3
      refine JZ_ifeq (tg := 77) i_51_71 (by decide) (by omega) (fun h71 => ?_) (fun h71 => ?_)
      · refine JZ_aload_n i_51_77 (by rfl) ?_
        refine JZ_iload i_51_78 (by rfl) ?_
        refine JZ_v1V (j := 0) i_51_80 v_51_191 (by decide +kernel) rfl rfl (Nat.le_of_ble_eq_true rfl) (by assumption) rfl rfl (m_47 ho (by omega) (by omega) (by omega) hG) (fun ψ4 hQ4 => ?_)
        obtain ⟨g, hg1, hg2, hψ4, hG⟩ := hQ4
        refine JZ_iinc i_51_83 (by rfl) (by rw [l_51]; decide) (by rfl) ?_
        refine JZ_goto (tg := 38) i_51_86 (by decide) ?_
        have hT3 := hT2 (by omega)
        have hs2 : s * ((i + 1 : Nat) : Int) = s * i + s := by rw [Int.natCast_succ, Int.mul_add, Int.mul_one]
        refine JZ_fg (hK () _ ⟨hG, by omega, by omega, by omega, ?_, fun j hj hb => ?_⟩) (by repeat (first | exact trivial | refine ⟨rfl, ?_⟩))
        · have hgx : g = 1 := by rcases hs with rfl | rfl <;> omega
          rw [hψ4, e11, e3, hφ, jU_coll, hgx, hs2]
          have e1 : ψ o 11 + (i : Int) + 1 = ψ o 11 + ((i + 1 : Nat) : Int) := by omega
          have e2 : ψ o 3 + s * (i : Int) + s = ψ o 3 + (s * (i : Int) + s) := by omega
          rw [e1, e2]
        · refine hT j hj ?_
          have e2 : φ o 3 + s = ψ o 3 + s * ((i + 1 : Nat) : Int) := by omega
          rw [← e2] at hb
          have h1 := hT3 j hj ((eb _ _).mpr hb)
          have h2 := (eb _ _).mp h1
          rw [e3] at h2
          exact h2
      refine JZ_goto (tg := 89) i_51_74 (by decide) ?_
      exact JZ_fg (h89 _ _ ⟨hG, hi8, ht0, ht1, hφ, hT⟩) (by repeat (first | exact trivial | refine ⟨rfl, ?_⟩))
    · intro u φ hI
      obtain ⟨hG, hi8, ht0, ht1, hφ, hT⟩ := hI
      have e3 : φ o 3 = ψ o 3 + s * m := by rw [hφ]; exact jU_eq _ _ _ _
      have e11 : φ o 11 = ψ o 11 + m := by rw [hφ, jU_nk (by decide)]; exact jU_eq _ _ _ _
      have e81 : φ r 81 = ψ r 81 := by rw [hφ, jU_nk (by decide), jU_nk (by decide)]
      have e94 : φ r 94 = ψ r 94 := by rw [hφ, jU_nk (by decide), jU_nk (by decide)]
      have e95 : φ r 95 = ψ r 95 := by rw [hφ, jU_nk (by decide), jU_nk (by decide)]
      have eb : ∀ (t : Int) (x : Nat), btc φ o t x ↔ btc ψ o t x := fun t x => btc_own (fun a' k' hk hk2 => by rw [hφ]; unfold jU; rw [if_neg (by omega), if_neg (by omega)])
      refine JZ_iload i_51_38 (by rfl) ?_
      refine JZ_iload_n i_51_40 (by rfl) ?_
      refine JZ_icge (tg := 89) i_51_41 (by decide) (by omega) (by omega) (fun h41 => ?_) (fun h41 => ?_)
      · exact JZ_fg (h89 _ _ ⟨hG, hi8, ht0, ht1, hφ, hT⟩) (by repeat (first | exact trivial | refine ⟨rfl, ?_⟩))
      exfalso; omega
    · refine ⟨hG, by omega, by omega, by omega, ?_, fun j hj hb => ?_⟩
      · rw [jU_id (a := o) (k := 11) (by simp), jU_id (by simp)]
      · simpa using hb
  refine JZ_ifle (tg := 27) i_51_20 (by decide) (by omega) (fun h20 => ?_) (fun h20 => ?_)
  · refine JZ_iconst i_51_27 ?_
    exact JZ_fg (h28 _ (by omega)) (by repeat (first | exact trivial | refine ⟨rfl, ?_⟩))
  refine JZ_iconst i_51_23 ?_
  refine JZ_goto (tg := 28) i_51_24 (by decide) ?_
  exact JZ_fg (h28 _ (by omega)) (by repeat (first | exact trivial | refine ⟨rfl, ?_⟩))
end P28
