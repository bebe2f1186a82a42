/-! what would be: the copy -/
/-- the keys lo .. hi - 1 of the cell a are those of the cell z -/
def cpS (ψ : jSt) (a z lo hi : Nat) (φ : jSt) : Prop := jG φ ∧ (∀ k, lo ≤ k → k < hi → φ a k = ψ z k) ∧ (∀ x k, ¬ (x = a ∧ lo ≤ k ∧ k < hi) → φ x k = ψ x k)
theorem cpS_zero {ψ : jSt} {a z lo : Nat} (hG : jG ψ) : cpS ψ a z lo lo ψ := ⟨hG, fun k h1 h2 => absurd h2 (by omega), fun _ _ _ => rfl⟩
theorem cpS_step {ψ φ φ' : jSt} {a z lo hi : Nat} (h : cpS ψ a z lo hi φ) (haz : ¬ z = a) (hl : lo ≤ hi) (hG : jG φ') (e : φ' = jU φ a hi (φ z hi)) : cpS ψ a z lo (hi + 1) φ' := by
  obtain ⟨h0, h1, h2⟩ := h
  subst e
  refine ⟨hG, fun k k1 k2 => ?_, fun x k hk => ?_⟩
  · by_cases q : k = hi
    · subst q
      rw [jU_eq]
      exact h2 z k (fun q => haz q.1)
    · rw [jU_nk q]
      exact h1 k k1 (by omega)
  · rw [← h2 x k (by omega)]
    unfold jU
    rw [if_neg (by omega)]
section P34a
variable {xs : Nat → Int32} {L0 : Nat}
theorem m_58 {ψ : jSt} {a z : Nat} (ha : jBar a) (hz : jBar z) (hza : ¬ z = a) (b1 : ψ z 1 = 0 ∨ ψ z 1 = 1) (b8 : ψ z 8 = 0 ∨ ψ z 8 = 1) (b9 : ψ z 9 = 0 ∨ ψ z 9 = 1) (b10 : ψ z 10 = 0 ∨ ψ z 10 = 1) (hG : jG ψ) : JZ Eq xs L0 58 0 ([some (.ref a), some (.ref z)] ++ List.replicate 0 none) [] ψ (oV (cpS ψ a z 1 13)) := by
  have hal := jSk_lt ha
  have hzl := jSk_lt hz
  have hS1 := cpS_zero (ψ := ψ) (a := a) (z := z) (lo := 1) hG
  have z1 := hS1.2.2 z 1 (fun q => hza q.1)
  refine JZ_aload_n i_58_0 (by rfl) ?_
  refine JZ_aload_n i_58_1 (by rfl) ?_
  refine JZ_gB (key := 1) i_58_2 f_58_17 (by assumption) (by rfl) rfl hG (fun u2 v2 => ?_)
  refine JZ_pB (key := 1) i_58_5 f_58_17 (by assumption) (by rfl) rfl (Or.inr ⟨t_0_1, by omega⟩) (by rfl) hG (by omega) (fun hG => ?_)
  obtain ⟨φ1, hφ1⟩ : ∃ χ, χ = jU ψ a 1 (ψ z 1) := ⟨_, rfl⟩
  rw [← hφ1] at hG
  rw [← hφ1]
  have hS2 := cpS_step hS1 hza (by omega) hG hφ1
  have z2 := hS2.2.2 z 2 (fun q => hza q.1)
  refine JZ_aload_n i_58_8 (by rfl) ?_
  refine JZ_aload_n i_58_9 (by rfl) ?_
  refine JZ_gB (key := 2) i_58_10 f_58_20 (by assumption) (by rfl) rfl hG (fun u10 v10 => ?_)
  refine JZ_pB (key := 2) i_58_13 f_58_20 (by assumption) (by rfl) rfl (Or.inl t_0_2) (by rfl) hG (by omega) (fun hG => ?_)
  obtain ⟨φ2, hφ2⟩ : ∃ χ, χ = jU φ1 a 2 (φ1 z 2) := ⟨_, rfl⟩
  rw [← hφ2] at hG
  rw [← hφ2]
  have hS3 := cpS_step hS2 hza (by omega) hG hφ2
  have z3 := hS3.2.2 z 3 (fun q => hza q.1)
  refine JZ_aload_n i_58_16 (by rfl) ?_
  refine JZ_aload_n i_58_17 (by rfl) ?_
  refine JZ_gB (key := 3) i_58_18 f_58_23 (by assumption) (by rfl) rfl hG (fun u18 v18 => ?_)
  refine JZ_pB (key := 3) i_58_21 f_58_23 (by assumption) (by rfl) rfl (Or.inl t_0_3) (by rfl) hG (by omega) (fun hG => ?_)
  obtain ⟨φ3, hφ3⟩ : ∃ χ, χ = jU φ2 a 3 (φ2 z 3) := ⟨_, rfl⟩
  rw [← hφ3] at hG
  rw [← hφ3]
  have hS4 := cpS_step hS3 hza (by omega) hG hφ3
  have z4 := hS4.2.2 z 4 (fun q => hza q.1)
  refine JZ_aload_n i_58_24 (by rfl) ?_
  refine JZ_aload_n i_58_25 (by rfl) ?_
  refine JZ_gB (key := 4) i_58_26 f_58_26 (by assumption) (by rfl) rfl hG (fun u26 v26 => ?_)
  refine JZ_pB (key := 4) i_58_29 f_58_26 (by assumption) (by rfl) rfl (Or.inl t_0_4) (by rfl) hG (by omega) (fun hG => ?_)
  obtain ⟨φ4, hφ4⟩ : ∃ χ, χ = jU φ3 a 4 (φ3 z 4) := ⟨_, rfl⟩
  rw [← hφ4] at hG
  rw [← hφ4]
  have hS5 := cpS_step hS4 hza (by omega) hG hφ4
  have z5 := hS5.2.2 z 5 (fun q => hza q.1)
  refine JZ_aload_n i_58_32 (by rfl) ?_
  refine JZ_aload_n i_58_33 (by rfl) ?_
  refine JZ_gB (key := 5) i_58_34 f_58_29 (by assumption) (by rfl) rfl hG (fun u34 v34 => ?_)
  refine JZ_pB (key := 5) i_58_37 f_58_29 (by assumption) (by rfl) rfl (Or.inl t_0_5) (by rfl) hG (by omega) (fun hG => ?_)
  obtain ⟨φ5, hφ5⟩ : ∃ χ, χ = jU φ4 a 5 (φ4 z 5) := ⟨_, rfl⟩
  rw [← hφ5] at hG
  rw [← hφ5]
  have hS6 := cpS_step hS5 hza (by omega) hG hφ5
  have z6 := hS6.2.2 z 6 (fun q => hza q.1)
  refine JZ_aload_n i_58_40 (by rfl) ?_
  refine JZ_aload_n i_58_41 (by rfl) ?_
  refine JZ_gB (key := 6) i_58_42 f_58_32 (by assumption) (by rfl) rfl hG (fun u42 v42 => ?_)
  refine JZ_pB (key := 6) i_58_45 f_58_32 (by assumption) (by rfl) rfl (Or.inl t_0_6) (by rfl) hG (by omega) (fun hG => ?_)
  obtain ⟨φ6, hφ6⟩ : ∃ χ, χ = jU φ5 a 6 (φ5 z 6) := ⟨_, rfl⟩
  rw [← hφ6] at hG
  rw [← hφ6]
  have hS7 := cpS_step hS6 hza (by omega) hG hφ6
  have z7 := hS7.2.2 z 7 (fun q => hza q.1)
  refine JZ_aload_n i_58_48 (by rfl) ?_
  refine JZ_aload_n i_58_49 (by rfl) ?_
  refine JZ_gB (key := 7) i_58_50 f_58_35 (by assumption) (by rfl) rfl hG (fun u50 v50 => ?_)
  refine JZ_pB (key := 7) i_58_53 f_58_35 (by assumption) (by rfl) rfl (Or.inl t_0_7) (by rfl) hG (by omega) (fun hG => ?_)
  obtain ⟨φ7, hφ7⟩ : ∃ χ, χ = jU φ6 a 7 (φ6 z 7) := ⟨_, rfl⟩
  rw [← hφ7] at hG
  rw [← hφ7]
  have hS8 := cpS_step hS7 hza (by omega) hG hφ7
  have z8 := hS8.2.2 z 8 (fun q => hza q.1)
  refine JZ_aload_n i_58_56 (by rfl) ?_
  refine JZ_aload_n i_58_57 (by rfl) ?_
  refine JZ_gB (key := 8) i_58_58 f_58_38 (by assumption) (by rfl) rfl hG (fun u58 v58 => ?_)
  refine JZ_pB (key := 8) i_58_61 f_58_38 (by assumption) (by rfl) rfl (Or.inr ⟨t_0_8, by omega⟩) (by rfl) hG (by omega) (fun hG => ?_)
  obtain ⟨φ8, hφ8⟩ : ∃ χ, χ = jU φ7 a 8 (φ7 z 8) := ⟨_, rfl⟩
  rw [← hφ8] at hG
  rw [← hφ8]
  have hS9 := cpS_step hS8 hza (by omega) hG hφ8
  have z9 := hS9.2.2 z 9 (fun q => hza q.1)
  refine JZ_aload_n i_58_64 (by rfl) ?_
  refine JZ_aload_n i_58_65 (by rfl) ?_
  refine JZ_gB (key := 9) i_58_66 f_58_7 (by assumption) (by rfl) rfl hG (fun u66 v66 => ?_)
  refine JZ_pB (key := 9) i_58_69 f_58_7 (by assumption) (by rfl) rfl (Or.inr ⟨t_0_9, by omega⟩) (by rfl) hG (by omega) (fun hG => ?_)
  obtain ⟨φ9, hφ9⟩ : ∃ χ, χ = jU φ8 a 9 (φ8 z 9) := ⟨_, rfl⟩
  rw [← hφ9] at hG
  rw [← hφ9]
  have hS10 := cpS_step hS9 hza (by omega) hG hφ9
  have z10 := hS10.2.2 z 10 (fun q => hza q.1)
  refine JZ_aload_n i_58_72 (by rfl) ?_
  refine JZ_aload_n i_58_73 (by rfl) ?_
  refine JZ_gB (key := 10) i_58_74 f_58_41 (by assumption) (by rfl) rfl hG (fun u74 v74 => ?_)
  refine JZ_pB (key := 10) i_58_77 f_58_41 (by assumption) (by rfl) rfl (Or.inr ⟨t_0_10, by omega⟩) (by rfl) hG (by omega) (fun hG => ?_)
  obtain ⟨φ10, hφ10⟩ : ∃ χ, χ = jU φ9 a 10 (φ9 z 10) := ⟨_, rfl⟩
  rw [← hφ10] at hG
  rw [← hφ10]
  have hS11 := cpS_step hS10 hza (by omega) hG hφ10
  have z11 := hS11.2.2 z 11 (fun q => hza q.1)
  refine JZ_aload_n i_58_80 (by rfl) ?_
  refine JZ_aload_n i_58_81 (by rfl) ?_
  refine JZ_gB (key := 11) i_58_82 f_58_44 (by assumption) (by rfl) rfl hG (fun u82 v82 => ?_)
  refine JZ_pB (key := 11) i_58_85 f_58_44 (by assumption) (by rfl) rfl (Or.inl t_0_11) (by rfl) hG (by omega) (fun hG => ?_)
  obtain ⟨φ11, hφ11⟩ : ∃ χ, χ = jU φ10 a 11 (φ10 z 11) := ⟨_, rfl⟩
  rw [← hφ11] at hG
  rw [← hφ11]
  have hS12 := cpS_step hS11 hza (by omega) hG hφ11
  have z12 := hS12.2.2 z 12 (fun q => hza q.1)
  refine JZ_aload_n i_58_88 (by rfl) ?_
  refine JZ_aload_n i_58_89 (by rfl) ?_
  refine JZ_gB (key := 12) i_58_90 f_58_47 (by assumption) (by rfl) rfl hG (fun u90 v90 => ?_)
  refine JZ_pB (key := 12) i_58_93 f_58_47 (by assumption) (by rfl) rfl (Or.inl t_0_12) (by rfl) hG (by omega) (fun hG => ?_)
  obtain ⟨φ12, hφ12⟩ : ∃ χ, χ = jU φ11 a 12 (φ11 z 12) := ⟨_, rfl⟩
  rw [← hφ12] at hG
  rw [← hφ12]
  have hS13 := cpS_step hS12 hza (by omega) hG hφ12
  refine JZ_vret i_58_96 r_58 ?_
  exact hS13
theorem m_59 {ψ : jSt} {a z : Nat} (ha : jMove a) (hz : jMove z) (hza : ¬ z = a) (hG : jG ψ) : JZ Eq xs L0 59 0 ([some (.ref a), some (.ref z)] ++ List.replicate 0 none) [] ψ (oV (cpS ψ a z 40 46)) := by
  have hal := jSk_lt ha
  have hzl := jSk_lt hz
  have hS40 := cpS_zero (ψ := ψ) (a := a) (z := z) (lo := 40) hG
  have z40 := hS40.2.2 z 40 (fun q => hza q.1)
  refine JZ_aload_n i_59_0 (by rfl) ?_
  refine JZ_aload_n i_59_1 (by rfl) ?_
  refine JZ_gB (key := 40) i_59_2 f_59_15 (by assumption) (by rfl) rfl hG (fun u2 v2 => ?_)
  refine JZ_pB (key := 40) i_59_5 f_59_15 (by assumption) (by rfl) rfl (Or.inl t_2_0) (by rfl) hG (by omega) (fun hG => ?_)
  obtain ⟨φ40, hφ40⟩ : ∃ χ, χ = jU ψ a 40 (ψ z 40) := ⟨_, rfl⟩
  rw [← hφ40] at hG
  rw [← hφ40]
  have hS41 := cpS_step hS40 hza (by omega) hG hφ40
  have z41 := hS41.2.2 z 41 (fun q => hza q.1)
  refine JZ_aload_n i_59_8 (by rfl) ?_
  refine JZ_aload_n i_59_9 (by rfl) ?_
  refine JZ_gB (key := 41) i_59_10 f_59_18 (by assumption) (by rfl) rfl hG (fun u10 v10 => ?_)
  refine JZ_pB (key := 41) i_59_13 f_59_18 (by assumption) (by rfl) rfl (Or.inl t_2_1) (by rfl) hG (by omega) (fun hG => ?_)
  obtain ⟨φ41, hφ41⟩ : ∃ χ, χ = jU φ40 a 41 (φ40 z 41) := ⟨_, rfl⟩
  rw [← hφ41] at hG
  rw [← hφ41]
  have hS42 := cpS_step hS41 hza (by omega) hG hφ41
  have z42 := hS42.2.2 z 42 (fun q => hza q.1)
  refine JZ_aload_n i_59_16 (by rfl) ?_
  refine JZ_aload_n i_59_17 (by rfl) ?_
  refine JZ_gB (key := 42) i_59_18 f_59_21 (by assumption) (by rfl) rfl hG (fun u18 v18 => ?_)
  refine JZ_pB (key := 42) i_59_21 f_59_21 (by assumption) (by rfl) rfl (Or.inl t_2_2) (by rfl) hG (by omega) (fun hG => ?_)
  obtain ⟨φ42, hφ42⟩ : ∃ χ, χ = jU φ41 a 42 (φ41 z 42) := ⟨_, rfl⟩
  rw [← hφ42] at hG
  rw [← hφ42]
  have hS43 := cpS_step hS42 hza (by omega) hG hφ42
  have z43 := hS43.2.2 z 43 (fun q => hza q.1)
  refine JZ_aload_n i_59_24 (by rfl) ?_
  refine JZ_aload_n i_59_25 (by rfl) ?_
  refine JZ_gB (key := 43) i_59_26 f_59_24 (by assumption) (by rfl) rfl hG (fun u26 v26 => ?_)
  refine JZ_pB (key := 43) i_59_29 f_59_24 (by assumption) (by rfl) rfl (Or.inl t_2_3) (by rfl) hG (by omega) (fun hG => ?_)
  obtain ⟨φ43, hφ43⟩ : ∃ χ, χ = jU φ42 a 43 (φ42 z 43) := ⟨_, rfl⟩
  rw [← hφ43] at hG
  rw [← hφ43]
  have hS44 := cpS_step hS43 hza (by omega) hG hφ43
  have z44 := hS44.2.2 z 44 (fun q => hza q.1)
  refine JZ_aload_n i_59_32 (by rfl) ?_
  refine JZ_aload_n i_59_33 (by rfl) ?_
  refine JZ_gB (key := 44) i_59_34 f_59_9 (by assumption) (by rfl) rfl hG (fun u34 v34 => ?_)
  refine JZ_pB (key := 44) i_59_37 f_59_9 (by assumption) (by rfl) rfl (Or.inl t_2_4) (by rfl) hG (by omega) (fun hG => ?_)
  obtain ⟨φ44, hφ44⟩ : ∃ χ, χ = jU φ43 a 44 (φ43 z 44) := ⟨_, rfl⟩
  rw [← hφ44] at hG
  rw [← hφ44]
  have hS45 := cpS_step hS44 hza (by omega) hG hφ44
  have z45 := hS45.2.2 z 45 (fun q => hza q.1)
  refine JZ_aload_n i_59_40 (by rfl) ?_
  refine JZ_aload_n i_59_41 (by rfl) ?_
  refine JZ_gB (key := 45) i_59_42 f_59_27 (by assumption) (by rfl) rfl hG (fun u42 v42 => ?_)
  refine JZ_pB (key := 45) i_59_45 f_59_27 (by assumption) (by rfl) rfl (Or.inl t_2_5) (by rfl) hG (by omega) (fun hG => ?_)
  obtain ⟨φ45, hφ45⟩ : ∃ χ, χ = jU φ44 a 45 (φ44 z 45) := ⟨_, rfl⟩
  rw [← hφ45] at hG
  rw [← hφ45]
  have hS46 := cpS_step hS45 hza (by omega) hG hφ45
  refine JZ_vret i_59_48 r_59 ?_
  exact hS46
def q60 (ψ : jSt) (c mc : Nat) (φ : jSt) : Prop := jG φ ∧ φ (61 + 11 + 8 * c) 21 = ψ (2 + 11 + 8 * c) 21 ∧ φ (61 + 11 + 8 * c) 22 = ψ (2 + 11 + 8 * c) 22
  ∧ (∀ m, m < mc → ∀ k, 40 ≤ k → k < 46 → φ (61 + 13 + 8 * c + m) k = ψ (2 + 13 + 8 * c + m) k)
  ∧ (∀ x k, ¬ (x = 61 + 11 + 8 * c ∧ (k = 21 ∨ k = 22)) → ¬ (61 + 13 + 8 * c ≤ x ∧ x < 61 + 13 + 8 * c + mc ∧ 40 ≤ k ∧ k < 46) → φ x k = ψ x k)
theorem q60_step {ψ φ φ' : jSt} {c m : Nat} (hc : c < 6) (hm : m < 6) (h : q60 ψ c m φ) (h9 : cpS φ (61 + 13 + 8 * c + m) (2 + 13 + 8 * c + m) 40 46 φ') : q60 ψ c (m + 1) φ' := by
  obtain ⟨h0, h1, h2, h3, h4⟩ := h
  obtain ⟨g0, g1, g2⟩ := h9
  refine ⟨g0, by rw [g2 _ _ (by omega)]; exact h1, by rw [g2 _ _ (by omega)]; exact h2, fun m' hm' k k1 k2 => ?_, fun x k k1 k2 => ?_⟩
  · by_cases q : m' = m
    · subst q
      rw [g1 k k1 k2]
      exact h4 _ _ (by omega) (by omega)
    · rw [g2 _ _ (by omega)]
      exact h3 m' (by omega) k k1 k2
  · rw [g2 _ _ (by omega)]
    exact h4 x k k1 (by omega)
theorem m_60 {ψ : jSt} (c : Nat) (hc : c < 6) (mc : Nat) (hmc : ψ (2 + 11 + 8 * c) 21 = (mc : Int)) (hm6 : mc ≤ 6) (hG : jG ψ) : JZ Eq xs L0 60 0 ([some (.ref (61 + 11 + 8 * c)), some (.ref (2 + 11 + 8 * c))] ++ List.replicate 1 none) [] ψ (oV (q60 ψ c mc)) := by
  have hcA := (jR_cue (r := 61) (by decide) hc).1
  have hcB := (jR_cue (r := 2) (by decide) hc).1
  refine JZ_aload_n i_60_0 (by rfl) ?_
  refine JZ_aload_n i_60_1 (by rfl) ?_
  refine JZ_gB (key := 22) i_60_2 f_60_9 (by assumption) (by rfl) rfl hG (fun u2 v2 => ?_)
  refine JZ_pB (key := 22) i_60_5 f_60_9 (by assumption) (by rfl) rfl (Or.inl t_1_2) (by rfl) hG (by omega) (fun hG => ?_)
  refine JZ_aload_n i_60_8 (by rfl) ?_
  refine JZ_aload_n i_60_9 (by rfl) ?_
  refine JZ_gB (key := 21) i_60_10 f_60_22 (by assumption) (by rfl) rfl hG (fun u10 v10 => ?_)
  refine JZ_pB (key := 21) i_60_13 f_60_22 (by assumption) (by rfl) rfl (Or.inl t_1_1) (by rfl) hG (by omega) (fun hG => ?_)
  refine JZ_iconst i_60_16 ?_
  refine JZ_istore_n i_60_17 (by rw [l_60]; decide) (by rfl) ?_
  refine JZ_fg (L' := [some (.ref (61 + 11 + 8 * c)), some (.ref (2 + 11 + 8 * c)), some (.int (jI (((0 : Nat) : Int))))]) ?_ (by repeat (first | exact trivial | refine ⟨rfl, ?_⟩))
  refine JZ_for (σ := Unit) (N := mc) (I := fun i _ φ => q60 ψ c i φ) (Lf := fun i _ => [some (.ref (61 + 11 + 8 * c)), some (.ref (2 + 11 + 8 * c)), some (.int (jI ((i : Int))))]) ?_ ?_ mc 0 () _ (by omega) ?_
  · intro i u φ hi hI hK
    have hG := hI.1
    have e21 : φ (61 + 11 + 8 * c) 21 = (mc : Int) := by rw [hI.2.1]; exact hmc
    have hmA := jR_move (r := 61) (by decide) hc (show i < 6 by omega)
    have hmB := jR_move (r := 2) (by decide) hc (show i < 6 by omega)
    have hlA := jSk_lt hmA
    have hlB := jSk_lt hmB
    refine JZ_iload_n i_60_18 (by rfl) ?_
    refine JZ_aload_n i_60_19 (by rfl) ?_
    refine JZ_gB (key := 21) i_60_20 f_60_22 (by assumption) (by rfl) rfl hG (fun u20 v20 => ?_)
    refine JZ_icge (tg := 47) i_60_23 (by decide) (by omega) (by omega) (fun h23 => ?_) (fun h23 => ?_)
    · exfalso; omega
    refine JZ_aload_n i_60_26 (by rfl) ?_
    refine JZ_gMoves i_60_27 f_60_17 (by decide) (by omega) ?_
    refine JZ_iload_n i_60_30 (by rfl) ?_
    refine JZ_aMove (i) i_60_31 (by decide) (by omega) (by omega) (by omega) ?_
    refine JZ_aload_n i_60_32 (by rfl) ?_
    refine JZ_gMoves i_60_33 f_60_17 (by decide) (by omega) ?_
    refine JZ_iload_n i_60_36 (by rfl) ?_
    refine JZ_aMove (i) i_60_37 (by decide) (by omega) (by omega) (by omega) ?_
    refine JZ_v1V (j := 0) i_60_38 v_60_25 (by decide +kernel) rfl rfl (Nat.le_of_ble_eq_true rfl) (by assumption) (by first | rfl | (simp only [List.all_cons, List.all_nil, g_ok, Bool.and_true, Bool.true_and, Bool.and_eq_true, decide_eq_true_eq] <;> first | assumption | exact ⟨by assumption, by assumption⟩ | exact ⟨by assumption, by assumption, by assumption⟩ | omega)) rfl (m_59 hmA hmB (by omega) hG) (fun ψ38 hQ38 => ?_)
    refine JZ_iinc i_60_41 (by rfl) (by rw [l_60]; decide) (by rfl) ?_
    refine JZ_goto (tg := 18) i_60_44 (by decide) ?_
    exact JZ_fg (hK () _ (q60_step hc (by omega) hI hQ38)) (by repeat (first | exact trivial | refine ⟨rfl, ?_⟩))
  · intro u φ hI
    have hG := hI.1
    have e21 : φ (61 + 11 + 8 * c) 21 = (mc : Int) := by rw [hI.2.1]; exact hmc
    refine JZ_iload_n i_60_18 (by rfl) ?_
    refine JZ_aload_n i_60_19 (by rfl) ?_
    refine JZ_gB (key := 21) i_60_20 f_60_22 (by assumption) (by rfl) rfl hG (fun u20 v20 => ?_)
    refine JZ_icge (tg := 47) i_60_23 (by decide) (by omega) (by omega) (fun h23 => ?_) (fun h23 => ?_)
    · refine JZ_vret i_60_47 r_60 ?_
      exact hI
    exfalso; omega
  · refine ⟨hG, ?_, ?_, fun m hm => absurd hm (Nat.not_lt_zero m), fun x k h1 h2 => ?_⟩
    · rw [jU_eq, jU_nk (by decide)]
    · rw [jU_nk (by decide), jU_eq]
    · unfold jU; rw [if_neg (by omega), if_neg (by omega)]
/-- what the copy tells of the rehearsal -/
def live (ψ : jSt) (a k : Nat) : Prop := (a = 61 ∧ (k = 81 ∨ (83 ≤ k ∧ k ≤ 97))) ∨ (∃ b : Nat, (b : Int) < ψ 2 81 ∧ a = 61 + 2 + b ∧ 1 ≤ k ∧ k < 13) ∨ (∃ c : Nat, (c : Int) < ψ 2 83 ∧ a = 61 + 11 + 8 * c ∧ (k = 21 ∨ k = 22)) ∨ (∃ c m : Nat, (c : Int) < ψ 2 83 ∧ (m : Int) < ψ (2 + 11 + 8 * c) 21 ∧ a = 61 + 13 + 8 * c + m ∧ 40 ≤ k ∧ k < 46)
theorem live_lo {ψ : jSt} {a k : Nat} (h : a < 61) : ¬ live ψ a k := by
  rintro (q | ⟨b, h1, h2, h3⟩ | ⟨c, h1, h2, h3⟩ | ⟨c, m, h1, h2, h3, h4⟩) <;> omega
def CPx (ψ : jSt) (nb c hi : Nat) (φ : jSt) : Prop := jG φ ∧ (∀ x k, ¬ live ψ x k → φ x k = ψ x k) ∧ φ 61 81 = ψ 2 81
  ∧ (∀ b, b < nb → ∀ k, 1 ≤ k → k < 13 → φ (61 + 2 + b) k = ψ (2 + 2 + b) k)
  ∧ (∀ c', c' < c → φ (61 + 11 + 8 * c') 21 = ψ (2 + 11 + 8 * c') 21 ∧ φ (61 + 11 + 8 * c') 22 = ψ (2 + 11 + 8 * c') 22 ∧ ∀ m : Nat, (m : Int) < ψ (2 + 11 + 8 * c') 21 → ∀ k, 40 ≤ k → k < 46 → φ (61 + 13 + 8 * c' + m) k = ψ (2 + 13 + 8 * c' + m) k)
  ∧ (∀ k, 83 ≤ k → k < hi → φ 61 k = ψ 2 k)
theorem CPx_bar {ψ φ φ' : jSt} {b : Nat} (hb : (b : Int) < ψ 2 81) (hb8 : b < 8) (h : CPx ψ b 0 83 φ) (h9 : cpS φ (61 + 2 + b) (2 + 2 + b) 1 13 φ') : CPx ψ (b + 1) 0 83 φ' := by
  obtain ⟨h0, h1, h2, h3, h4, h5⟩ := h
  obtain ⟨g0, g1, g2⟩ := h9
  refine ⟨g0, fun x k hk => ?_, by rw [g2 _ _ (by omega)]; exact h2, fun b' hb' k k1 k2 => ?_, fun c' hc' => absurd hc' (Nat.not_lt_zero _), fun k k1 k2 => absurd k2 (by omega)⟩
  · rw [g2 x k (fun q => hk (Or.inr (Or.inl ⟨b, hb, q.1, q.2.1, q.2.2⟩)))]
    exact h1 x k hk
  · by_cases q : b' = b
    · subst q
      rw [g1 k k1 k2]
      exact h1 _ _ (live_lo (by omega))
    · rw [g2 _ _ (by omega)]
      exact h3 b' (by omega) k k1 k2
theorem CPx_cue {ψ φ φ' : jSt} {n c mc : Nat} (hn8 : n ≤ 8) (hc : (c : Int) < ψ 2 83) (hc6 : c < 6) (hmc : ψ (2 + 11 + 8 * c) 21 = (mc : Int)) (hm6 : mc ≤ 6) (hmm : ∀ c' : Nat, c' < 6 → ψ (2 + 11 + 8 * c') 21 ≤ 6) (h : CPx ψ n c 84 φ) (h9 : q60 φ c mc φ') : CPx ψ n (c + 1) 84 φ' := by
  obtain ⟨h0, h1, h2, h3, h4, h5⟩ := h
  obtain ⟨g0, g1, g2, g3, g4⟩ := h9
  refine ⟨g0, fun x k hk => ?_, by rw [g4 _ _ (by omega) (by omega)]; exact h2, fun b hb k k1 k2 => ?_, fun c' hc' => ?_, fun k k1 k2 => ?_⟩
  · rw [g4 x k (fun q => hk (Or.inr (Or.inr (Or.inl ⟨c, hc, q.1, q.2⟩)))) (fun q => hk (Or.inr (Or.inr (Or.inr ⟨c, x - (61 + 13 + 8 * c), hc, by omega, by omega, q.2.2.1, q.2.2.2⟩))))]
    exact h1 x k hk
  · rw [g4 _ _ (by omega) (by omega)]
    exact h3 b hb k k1 k2
  · by_cases q : c' = c
    · subst q
      refine ⟨?_, ?_, fun m hm k k1 k2 => ?_⟩
      · rw [g1]; exact h1 _ _ (live_lo (by omega))
      · rw [g2]; exact h1 _ _ (live_lo (by omega))
      · rw [g3 m (by omega) k k1 k2]; exact h1 _ _ (live_lo (by omega))
    · obtain ⟨e1, e2, e3⟩ := h4 c' (by omega)
      have h6 := hmm c' (by omega)
      refine ⟨?_, ?_, fun m hm k k1 k2 => ?_⟩
      · rw [g4 _ _ (by omega) (by omega)]; exact e1
      · rw [g4 _ _ (by omega) (by omega)]; exact e2
      · rw [g4 _ _ (by omega) (by omega)]; exact e3 m hm k k1 k2
  · rw [g4 _ _ (by omega) (by omega)]
    exact h5 k k1 k2
theorem CPx_rig {ψ φ φ' : jSt} {n c hi : Nat} (hh : 83 ≤ hi ∧ hi ≤ 96) (h : CPx ψ n c hi φ) (hn8 : n ≤ 8) (hc6 : c ≤ 6) (hmm : ∀ c' : Nat, c' < 6 → ψ (2 + 11 + 8 * c') 21 ≤ 6) (hG : jG φ') (e : φ' = jU φ 61 hi (φ 2 hi)) : CPx ψ n c (hi + 1) φ' := by
  obtain ⟨h0, h1, h2, h3, h4, h5⟩ := h
  subst e
  have hk : ∀ x k, ¬ (x = 61 ∧ k = hi) → jU φ 61 hi (φ 2 hi) x k = φ x k := fun x k q => by
    unfold jU
    rw [if_neg (by omega)]
  refine ⟨hG, fun x k q => ?_, by rw [hk _ _ (by omega)]; exact h2, fun b hb k k1 k2 => by rw [hk _ _ (by omega)]; exact h3 b hb k k1 k2, fun c' hc' => ?_, fun k k1 k2 => ?_⟩
  · rw [hk x k (fun q2 => q (Or.inl ⟨q2.1, by omega⟩))]
    exact h1 x k q
  · obtain ⟨e1, e2, e3⟩ := h4 c' hc'
    exact ⟨by rw [hk _ _ (by omega)]; exact e1, by rw [hk _ _ (by omega)]; exact e2, fun m hm k k1 k2 => by rw [hk _ _ (by omega)]; exact e3 m hm k k1 k2⟩
  · by_cases q : k = hi
    · subst q
      rw [jU_eq]
      exact h1 _ _ (live_lo (by omega))
    · rw [hk _ _ (by omega)]
      exact h5 k k1 (by omega)
/-- the rehearsal is the rig, as told; all else is as it was -/
def CP (ψ : jSt) (n nc : Nat) (φ : jSt) : Prop := ∃ χ, CPx ψ n nc 97 χ ∧ jG φ ∧ φ = jU χ 61 97 (-1)
theorem jU_nk2 {ψ : jSt} {a k a' k' : Nat} {v : Int} (h : ¬ (k' = k ∧ a' = a)) : jU ψ a k v a' k' = ψ a' k' := by
  unfold jU
  exact if_neg h
theorem m_61 {ψ : jSt} (n nc : Nat) (hn : ψ 2 81 = (n : Int)) (hn8 : n ≤ 8) (hnc : ψ 2 83 = (nc : Int)) (hnc6 : nc ≤ 6) (hm0 : ∀ c : Nat, c < 6 → 0 ≤ ψ (2 + 11 + 8 * c) 21) (hmm : ∀ c : Nat, c < 6 → ψ (2 + 11 + 8 * c) 21 ≤ 6)
  (hbo : ∀ b : Nat, b < 8 → (ψ (2 + 2 + b) 1 = 0 ∨ ψ (2 + 2 + b) 1 = 1) ∧ (ψ (2 + 2 + b) 8 = 0 ∨ ψ (2 + 2 + b) 8 = 1) ∧ (ψ (2 + 2 + b) 9 = 0 ∨ ψ (2 + 2 + b) 9 = 1) ∧ (ψ (2 + 2 + b) 10 = 0 ∨ ψ (2 + 2 + b) 10 = 1)) (h88 : ψ 2 88 = 0 ∨ ψ 2 88 = 1) (hG : jG ψ) : JZ Eq xs L0 61 0 ([some (.ref 61), some (.ref 2)] ++ List.replicate 1 none) [] ψ (oV (CP ψ n nc)) := by
  have hrA := jR_rig (r := 61) (by decide)
  have hrB := jR_rig (r := 2) (by decide)
  refine JZ_aload_n i_61_0 (by rfl) ?_
  refine JZ_aload_n i_61_1 (by rfl) ?_
  refine JZ_gB (key := 81) i_61_2 f_61_37 (by assumption) (by rfl) rfl hG (fun u2 v2 => ?_)
  refine JZ_pB (key := 81) i_61_5 f_61_37 (by assumption) (by rfl) rfl (Or.inl t_4_1) (by rfl) hG (by omega) (fun hG => ?_)
  refine JZ_iconst i_61_8 ?_
  refine JZ_istore_n i_61_9 (by rw [l_61]; decide) (by rfl) ?_
  refine JZ_fg (L' := [some (.ref 61), some (.ref 2), some (.int (jI (((0 : Nat) : Int))))]) ?_ (by repeat (first | exact trivial | refine ⟨rfl, ?_⟩))
  refine JZ_for (σ := Unit) (N := n) (I := fun i _ φ => CPx ψ i 0 83 φ) (Lf := fun i _ => [some (.ref 61), some (.ref 2), some (.int (jI ((i : Int))))]) ?_ ?_ n 0 () _ (by omega) ?_
  · intro i u φ hi hI hK
    have hG := hI.1
    have e81 : φ 61 81 = (n : Int) := by rw [hI.2.2.1]; exact hn
    have hbA := jR_bar (r := 61) (by decide) (show i < 8 by omega)
    have hbB := jR_bar (r := 2) (by decide) (show i < 8 by omega)
    have hlA := jSk_lt hbA
    have hlB := jSk_lt hbB
    have z1 : φ (2 + 2 + i) 1 = 0 ∨ φ (2 + 2 + i) 1 = 1 := by rw [hI.2.1 _ _ (live_lo (by omega))]; exact (hbo i (by omega)).1
    have z8 : φ (2 + 2 + i) 8 = 0 ∨ φ (2 + 2 + i) 8 = 1 := by rw [hI.2.1 _ _ (live_lo (by omega))]; exact (hbo i (by omega)).2.1
    have z9 : φ (2 + 2 + i) 9 = 0 ∨ φ (2 + 2 + i) 9 = 1 := by rw [hI.2.1 _ _ (live_lo (by omega))]; exact (hbo i (by omega)).2.2.1
    have z10 : φ (2 + 2 + i) 10 = 0 ∨ φ (2 + 2 + i) 10 = 1 := by rw [hI.2.1 _ _ (live_lo (by omega))]; exact (hbo i (by omega)).2.2.2
    refine JZ_iload_n i_61_10 (by rfl) ?_
    refine JZ_aload_n i_61_11 (by rfl) ?_
    refine JZ_gB (key := 81) i_61_12 f_61_37 (by assumption) (by rfl) rfl hG (fun u12 v12 => ?_)
    refine JZ_icge (tg := 39) i_61_15 (by decide) (by omega) (by omega) (fun h15 => ?_) (fun h15 => ?_)
    · exfalso; omega
    refine JZ_aload_n i_61_18 (by rfl) ?_
    refine JZ_gR i_61_19 f_61_23 (by assumption) (by rfl) ?_
    refine JZ_iload_n i_61_22 (by rfl) ?_
    refine JZ_aBar (i) i_61_23 (by decide) (by omega) (by omega) ?_
    refine JZ_aload_n i_61_24 (by rfl) ?_
    refine JZ_gR i_61_25 f_61_23 (by assumption) (by rfl) ?_
    refine JZ_iload_n i_61_28 (by rfl) ?_
    refine JZ_aBar (i) i_61_29 (by decide) (by omega) (by omega) ?_
    refine JZ_v1V (j := 0) i_61_30 v_61_40 (by decide +kernel) rfl rfl (Nat.le_of_ble_eq_true rfl) (by assumption) (by first | rfl | (simp only [List.all_cons, List.all_nil, g_ok, Bool.and_true, Bool.true_and, Bool.and_eq_true, decide_eq_true_eq] <;> first | assumption | exact ⟨by assumption, by assumption⟩ | exact ⟨by assumption, by assumption, by assumption⟩ | omega)) rfl (m_58 hbA hbB (by omega) z1 z8 z9 z10 hG) (fun ψ30 hQ30 => ?_)
    refine JZ_iinc i_61_33 (by rfl) (by rw [l_61]; decide) (by rfl) ?_
    refine JZ_goto (tg := 10) i_61_36 (by decide) ?_
    exact JZ_fg (hK () _ (CPx_bar (by omega) (by omega) hI hQ30)) (by repeat (first | exact trivial | refine ⟨rfl, ?_⟩))
  · intro u φ hIb
    have hG := hIb.1
    have e81 : φ 61 81 = (n : Int) := by rw [hIb.2.2.1]; exact hn
    refine JZ_iload_n i_61_10 (by rfl) ?_
    refine JZ_aload_n i_61_11 (by rfl) ?_
    refine JZ_gB (key := 81) i_61_12 f_61_37 (by assumption) (by rfl) rfl hG (fun u12 v12 => ?_)
    refine JZ_icge (tg := 39) i_61_15 (by decide) (by omega) (by omega) (fun h15 => ?_) (fun h15 => ?_)
    · refine JZ_aload_n i_61_39 (by rfl) ?_
      refine JZ_aload_n i_61_40 (by rfl) ?_
      refine JZ_gB (key := 83) i_61_41 f_61_44 (by assumption) (by rfl) rfl hG (fun u41 v41 => ?_)
      refine JZ_pB (key := 83) i_61_44 f_61_44 (by assumption) (by rfl) rfl (Or.inl t_4_3) (by rfl) hG (by omega) (fun hG => ?_)
      obtain ⟨φ83, hφ83⟩ : ∃ χ, χ = jU φ 61 83 (φ 2 83) := ⟨_, rfl⟩
      rw [← hφ83] at hG
      rw [← hφ83]
      have hX83 : CPx ψ n 0 84 φ83 := CPx_rig (by decide) hIb hn8 (by omega) hmm hG hφ83
      refine JZ_iconst i_61_47 ?_
      refine JZ_istore_n i_61_48 (by rw [l_61]; decide) (by rfl) ?_
      refine JZ_fg (L' := [some (.ref 61), some (.ref 2), some (.int (jI (((0 : Nat) : Int))))]) ?_ (by repeat (first | exact trivial | refine ⟨rfl, ?_⟩))
      refine JZ_for (σ := Unit) (N := nc) (I := fun i _ φ => CPx ψ n i 84 φ) (Lf := fun i _ => [some (.ref 61), some (.ref 2), some (.int (jI ((i : Int))))]) ?_ ?_ nc 0 () _ (by omega) ?_
      · intro i u φ hi hI hK
        have hG := hI.1
        have e83 : φ 61 83 = (nc : Int) := by rw [hI.2.2.2.2.2 83 (by decide) (by decide)]; exact hnc
        obtain ⟨mc, hmc⟩ := Int.eq_ofNat_of_zero_le (hm0 i (by omega))
        have hmi := hmm i (by omega)
        have hcA := (jR_cue (r := 61) (by decide) (show i < 6 by omega)).1
        have hcB := (jR_cue (r := 2) (by decide) (show i < 6 by omega)).1
        have hlA := jSk_lt hcA
        have hlB := jSk_lt hcB
        refine JZ_iload_n i_61_49 (by rfl) ?_
        refine JZ_aload_n i_61_50 (by rfl) ?_
        refine JZ_gB (key := 83) i_61_51 f_61_44 (by assumption) (by rfl) rfl hG (fun u51 v51 => ?_)
        refine JZ_icge (tg := 78) i_61_54 (by decide) (by omega) (by omega) (fun h54 => ?_) (fun h54 => ?_)
        · exfalso; omega
        refine JZ_aload_n i_61_57 (by rfl) ?_
        refine JZ_gR i_61_58 f_61_32 (by assumption) (by rfl) ?_
        refine JZ_iload_n i_61_61 (by rfl) ?_
        refine JZ_aCue (i) i_61_62 (by decide) (by omega) (by omega) ?_
        refine JZ_aload_n i_61_63 (by rfl) ?_
        refine JZ_gR i_61_64 f_61_32 (by assumption) (by rfl) ?_
        refine JZ_iload_n i_61_67 (by rfl) ?_
        refine JZ_aCue (i) i_61_68 (by decide) (by omega) (by omega) ?_
        refine JZ_v1V (j := 1) i_61_69 v_61_47 (by decide +kernel) rfl rfl (Nat.le_of_ble_eq_true rfl) (by assumption) (by first | rfl | (simp only [List.all_cons, List.all_nil, g_ok, Bool.and_true, Bool.true_and, Bool.and_eq_true, decide_eq_true_eq] <;> first | assumption | exact ⟨by assumption, by assumption⟩ | exact ⟨by assumption, by assumption, by assumption⟩ | omega)) rfl (m_60 i (by omega) mc (by rw [hI.2.1 _ _ (live_lo (by omega))]; exact hmc) (by omega) hG) (fun ψ69 hQ69 => ?_)
        refine JZ_iinc i_61_72 (by rfl) (by rw [l_61]; decide) (by rfl) ?_
        refine JZ_goto (tg := 49) i_61_75 (by decide) ?_
        exact JZ_fg (hK () _ (CPx_cue hn8 (by omega) (by omega) hmc (by omega) hmm hI hQ69)) (by repeat (first | exact trivial | refine ⟨rfl, ?_⟩))
      · intro u φc hIc
        have hG := hIc.1
        have e83 : φc 61 83 = (nc : Int) := by rw [hIc.2.2.2.2.2 83 (by decide) (by decide)]; exact hnc
        refine JZ_iload_n i_61_49 (by rfl) ?_
        refine JZ_aload_n i_61_50 (by rfl) ?_
        refine JZ_gB (key := 83) i_61_51 f_61_44 (by assumption) (by rfl) rfl hG (fun u51 v51 => ?_)
        refine JZ_icge (tg := 78) i_61_54 (by decide) (by omega) (by omega) (fun h54 => ?_) (fun h54 => ?_)
        · refine JZ_aload_n i_61_78 (by rfl) ?_
          refine JZ_aload_n i_61_79 (by rfl) ?_
          refine JZ_gB (key := 84) i_61_80 f_61_9 (by assumption) (by rfl) rfl hG (fun u80 v80 => ?_)
          refine JZ_pB (key := 84) i_61_83 f_61_9 (by assumption) (by rfl) rfl (Or.inl t_4_4) (by rfl) hG (by omega) (fun hG => ?_)
          obtain ⟨φ84, hφ84⟩ : ∃ χ, χ = jU φc 61 84 (φc 2 84) := ⟨_, rfl⟩
          rw [← hφ84] at hG
          rw [← hφ84]
          have hX84 : CPx ψ n nc 85 φ84 := CPx_rig (by decide) hIc hn8 hnc6 hmm hG hφ84
          refine JZ_aload_n i_61_86 (by rfl) ?_
          refine JZ_aload_n i_61_87 (by rfl) ?_
          refine JZ_gB (key := 85) i_61_88 f_61_50 (by assumption) (by rfl) rfl hG (fun u88 v88 => ?_)
          refine JZ_pB (key := 85) i_61_91 f_61_50 (by assumption) (by rfl) rfl (Or.inl t_4_5) (by rfl) hG (by omega) (fun hG => ?_)
          obtain ⟨φ85, hφ85⟩ : ∃ χ, χ = jU φ84 61 85 (φ84 2 85) := ⟨_, rfl⟩
          rw [← hφ85] at hG
          rw [← hφ85]
          have hX85 : CPx ψ n nc 86 φ85 := CPx_rig (by decide) hX84 hn8 hnc6 hmm hG hφ85
          refine JZ_aload_n i_61_94 (by rfl) ?_
          refine JZ_aload_n i_61_95 (by rfl) ?_
          refine JZ_gB (key := 86) i_61_96 f_61_53 (by assumption) (by rfl) rfl hG (fun u96 v96 => ?_)
          refine JZ_pB (key := 86) i_61_99 f_61_53 (by assumption) (by rfl) rfl (Or.inl t_4_6) (by rfl) hG (by omega) (fun hG => ?_)
          obtain ⟨φ86, hφ86⟩ : ∃ χ, χ = jU φ85 61 86 (φ85 2 86) := ⟨_, rfl⟩
          rw [← hφ86] at hG
          rw [← hφ86]
          have hX86 : CPx ψ n nc 87 φ86 := CPx_rig (by decide) hX85 hn8 hnc6 hmm hG hφ86
          refine JZ_aload_n i_61_102 (by rfl) ?_
          refine JZ_aload_n i_61_103 (by rfl) ?_
          refine JZ_gB (key := 87) i_61_104 f_61_15 (by assumption) (by rfl) rfl hG (fun u104 v104 => ?_)
          refine JZ_pB (key := 87) i_61_107 f_61_15 (by assumption) (by rfl) rfl (Or.inl t_4_7) (by rfl) hG (by omega) (fun hG => ?_)
          obtain ⟨φ87, hφ87⟩ : ∃ χ, χ = jU φ86 61 87 (φ86 2 87) := ⟨_, rfl⟩
          rw [← hφ87] at hG
          rw [← hφ87]
          have hX87 : CPx ψ n nc 88 φ87 := CPx_rig (by decide) hX86 hn8 hnc6 hmm hG hφ87
          have z88 : φ87 2 88 = ψ 2 88 := hX87.2.1 2 88 (live_lo (by decide))
          refine JZ_aload_n i_61_110 (by rfl) ?_
          refine JZ_aload_n i_61_111 (by rfl) ?_
          refine JZ_gB (key := 88) i_61_112 f_61_56 (by assumption) (by rfl) rfl hG (fun u112 v112 => ?_)
          refine JZ_pB (key := 88) i_61_115 f_61_56 (by assumption) (by rfl) rfl (Or.inr ⟨t_4_8, by omega⟩) (by rfl) hG (by omega) (fun hG => ?_)
          obtain ⟨φ88, hφ88⟩ : ∃ χ, χ = jU φ87 61 88 (φ87 2 88) := ⟨_, rfl⟩
          rw [← hφ88] at hG
          rw [← hφ88]
          have hX88 : CPx ψ n nc 89 φ88 := CPx_rig (by decide) hX87 hn8 hnc6 hmm hG hφ88
          refine JZ_aload_n i_61_118 (by rfl) ?_
          refine JZ_aload_n i_61_119 (by rfl) ?_
          refine JZ_gB (key := 89) i_61_120 f_61_60 (by assumption) (by rfl) rfl hG (fun u120 v120 => ?_)
          refine JZ_pB (key := 89) i_61_123 f_61_60 (by assumption) (by rfl) rfl (Or.inl t_4_9) (by rfl) hG (by omega) (fun hG => ?_)
          obtain ⟨φ89, hφ89⟩ : ∃ χ, χ = jU φ88 61 89 (φ88 2 89) := ⟨_, rfl⟩
          rw [← hφ89] at hG
          rw [← hφ89]
          have hX89 : CPx ψ n nc 90 φ89 := CPx_rig (by decide) hX88 hn8 hnc6 hmm hG hφ89
          refine JZ_aload_n i_61_126 (by rfl) ?_
          refine JZ_aload_n i_61_127 (by rfl) ?_
          refine JZ_gB (key := 90) i_61_128 f_61_63 (by assumption) (by rfl) rfl hG (fun u128 v128 => ?_)
          refine JZ_pB (key := 90) i_61_131 f_61_63 (by assumption) (by rfl) rfl (Or.inl t_4_10) (by rfl) hG (by omega) (fun hG => ?_)
          obtain ⟨φ90, hφ90⟩ : ∃ χ, χ = jU φ89 61 90 (φ89 2 90) := ⟨_, rfl⟩
          rw [← hφ90] at hG
          rw [← hφ90]
          have hX90 : CPx ψ n nc 91 φ90 := CPx_rig (by decide) hX89 hn8 hnc6 hmm hG hφ90
          refine JZ_aload_n i_61_134 (by rfl) ?_
          refine JZ_aload_n i_61_135 (by rfl) ?_
          refine JZ_gB (key := 91) i_61_136 f_61_66 (by assumption) (by rfl) rfl hG (fun u136 v136 => ?_)
          refine JZ_pB (key := 91) i_61_139 f_61_66 (by assumption) (by rfl) rfl (Or.inl t_4_11) (by rfl) hG (by omega) (fun hG => ?_)
          obtain ⟨φ91, hφ91⟩ : ∃ χ, χ = jU φ90 61 91 (φ90 2 91) := ⟨_, rfl⟩
          rw [← hφ91] at hG
          rw [← hφ91]
          have hX91 : CPx ψ n nc 92 φ91 := CPx_rig (by decide) hX90 hn8 hnc6 hmm hG hφ91
          refine JZ_aload_n i_61_142 (by rfl) ?_
          refine JZ_aload_n i_61_143 (by rfl) ?_
          refine JZ_gB (key := 92) i_61_144 f_61_69 (by assumption) (by rfl) rfl hG (fun u144 v144 => ?_)
          refine JZ_pB (key := 92) i_61_147 f_61_69 (by assumption) (by rfl) rfl (Or.inl t_4_12) (by rfl) hG (by omega) (fun hG => ?_)
          obtain ⟨φ92, hφ92⟩ : ∃ χ, χ = jU φ91 61 92 (φ91 2 92) := ⟨_, rfl⟩
          rw [← hφ92] at hG
          rw [← hφ92]
          have hX92 : CPx ψ n nc 93 φ92 := CPx_rig (by decide) hX91 hn8 hnc6 hmm hG hφ92
          refine JZ_aload_n i_61_150 (by rfl) ?_
          refine JZ_aload_n i_61_151 (by rfl) ?_
          refine JZ_gB (key := 93) i_61_152 f_61_72 (by assumption) (by rfl) rfl hG (fun u152 v152 => ?_)
          refine JZ_pB (key := 93) i_61_155 f_61_72 (by assumption) (by rfl) rfl (Or.inl t_4_13) (by rfl) hG (by omega) (fun hG => ?_)
          obtain ⟨φ93, hφ93⟩ : ∃ χ, χ = jU φ92 61 93 (φ92 2 93) := ⟨_, rfl⟩
          rw [← hφ93] at hG
          rw [← hφ93]
          have hX93 : CPx ψ n nc 94 φ93 := CPx_rig (by decide) hX92 hn8 hnc6 hmm hG hφ93
          refine JZ_aload_n i_61_158 (by rfl) ?_
          refine JZ_aload_n i_61_159 (by rfl) ?_
          refine JZ_gB (key := 94) i_61_160 f_61_75 (by assumption) (by rfl) rfl hG (fun u160 v160 => ?_)
          refine JZ_pB (key := 94) i_61_163 f_61_75 (by assumption) (by rfl) rfl (Or.inl t_4_14) (by rfl) hG (by omega) (fun hG => ?_)
          obtain ⟨φ94, hφ94⟩ : ∃ χ, χ = jU φ93 61 94 (φ93 2 94) := ⟨_, rfl⟩
          rw [← hφ94] at hG
          rw [← hφ94]
          have hX94 : CPx ψ n nc 95 φ94 := CPx_rig (by decide) hX93 hn8 hnc6 hmm hG hφ94
          refine JZ_aload_n i_61_166 (by rfl) ?_
          refine JZ_aload_n i_61_167 (by rfl) ?_
          refine JZ_gB (key := 95) i_61_168 f_61_78 (by assumption) (by rfl) rfl hG (fun u168 v168 => ?_)
          refine JZ_pB (key := 95) i_61_171 f_61_78 (by assumption) (by rfl) rfl (Or.inl t_4_15) (by rfl) hG (by omega) (fun hG => ?_)
          obtain ⟨φ95, hφ95⟩ : ∃ χ, χ = jU φ94 61 95 (φ94 2 95) := ⟨_, rfl⟩
          rw [← hφ95] at hG
          rw [← hφ95]
          have hX95 : CPx ψ n nc 96 φ95 := CPx_rig (by decide) hX94 hn8 hnc6 hmm hG hφ95
          refine JZ_aload_n i_61_174 (by rfl) ?_
          refine JZ_aload_n i_61_175 (by rfl) ?_
          refine JZ_gB (key := 96) i_61_176 f_61_81 (by assumption) (by rfl) rfl hG (fun u176 v176 => ?_)
          refine JZ_pB (key := 96) i_61_179 f_61_81 (by assumption) (by rfl) rfl (Or.inl t_4_16) (by rfl) hG (by omega) (fun hG => ?_)
          obtain ⟨φ96, hφ96⟩ : ∃ χ, χ = jU φ95 61 96 (φ95 2 96) := ⟨_, rfl⟩
          rw [← hφ96] at hG
          rw [← hφ96]
          have hX96 : CPx ψ n nc 97 φ96 := CPx_rig (by decide) hX95 hn8 hnc6 hmm hG hφ96
          refine JZ_aload_n i_61_182 (by rfl) ?_
          refine JZ_iconst i_61_183 ?_
          refine JZ_pB (key := 97) i_61_184 f_61_18 (by assumption) (by rfl) rfl (Or.inl t_4_17) (by rfl) hG (by omega) (fun hG => ?_)
          refine JZ_vret i_61_187 r_61 ?_
          exact ⟨φ96, hX96, hG, rfl⟩
        exfalso; omega
      · exact hX83
    exfalso; omega
  · refine ⟨hG, fun x k hk => ?_, jU_eq _ _ _ _, fun b hb => absurd hb (Nat.not_lt_zero b), fun c hc => absurd hc (Nat.not_lt_zero c), fun k k1 k2 => absurd k2 (by omega)⟩
    exact jU_nk2 (fun q => hk (Or.inl ⟨q.2, Or.inl q.1⟩))
end P34a
