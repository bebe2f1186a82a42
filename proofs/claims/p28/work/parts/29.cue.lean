/-! the class: cues begin, rest, are over -/
/-- how many of the first moves of a row are open -/
def opc (ψ : jSt) (a : Nat) : Nat → Int
  | 0 => 0
  | k + 1 => opc ψ a k + (if ψ (a + k) 44 = 0 then 1 else 0)
theorem opc_nn (ψ : jSt) (a : Nat) : ∀ k, 0 ≤ opc ψ a k ∧ opc ψ a k ≤ k
  | 0 => ⟨Int.le_refl _, Int.le_refl _⟩
  | k + 1 => by
    have ih := opc_nn ψ a k
    show 0 ≤ opc ψ a k + _ ∧ opc ψ a k + _ ≤ _
    split <;> omega
theorem opc_step (ψ : jSt) (a k : Nat) : opc ψ a k ≤ opc ψ a (k + 1) := by
  show _ ≤ opc ψ a k + _
  split <;> omega
theorem opc_le {ψ : jSt} {a i j : Nat} (h : i ≤ j) : opc ψ a i ≤ opc ψ a j := by
  induction h with
  | refl => exact Int.le_refl _
  | step _ ih => exact Int.le_trans ih (opc_step ψ a _)
theorem opc_eq {ψ φ : jSt} {a : Nat} : ∀ {k : Nat}, (∀ j, j < k → φ (a + j) 44 = ψ (a + j) 44) → opc φ a k = opc ψ a k
  | 0, _ => rfl
  | k + 1, h => by
    show opc φ a k + _ = opc ψ a k + _
    rw [opc_eq (fun j hj => h j (Nat.lt_succ_of_lt hj)), h k (Nat.lt_succ_self k)]
theorem opc_pos {ψ : jSt} {a k j : Nat} (hj : j < k) (h : ψ (a + j) 44 = 0) : 0 < opc ψ a k := by
  have h1 : opc ψ a (j + 1) = opc ψ a j + 1 := by
    show opc ψ a j + _ = _
    rw [if_pos h]
  have h2 := opc_nn ψ a j
  have h3 : opc ψ a (j + 1) ≤ opc ψ a k := opc_le hj
  omega
theorem opc_zero {ψ : jSt} {a : Nat} : ∀ {k : Nat}, opc ψ a k = 0 → ∀ j, j < k → ¬ ψ (a + j) 44 = 0 := fun h j hj q => by
  have := opc_pos hj q
  omega
theorem opc_none {ψ : jSt} {a : Nat} : ∀ {k : Nat}, (∀ j, j < k → ¬ ψ (a + j) 44 = 0) → opc ψ a k = 0
  | 0, _ => rfl
  | k + 1, h => by
    show opc ψ a k + _ = 0
    rw [opc_none (fun j hj => h j (Nat.lt_succ_of_lt hj)), if_neg (h k (Nat.lt_succ_self k))]
    rfl
section P29
variable {xs : Nat → Int32} {L0 : Nat}
theorem m_12 {ψ : jSt} {r : Nat} (hr : jR2 r) (c : Nat) (hc : c < 6) (mc : Nat) (hmc : ψ (r + 11 + 8 * c) 21 = (mc : Int)) (hm6 : mc ≤ 6) (hG : jG ψ) : JZ Eq xs L0 12 0 ([some (.ref (r + 11 + 8 * c))] ++ List.replicate 2 none) [] ψ (oI fun x ψ' => x = opc ψ (r + 13 + 8 * c) mc ∧ ψ' = ψ) := by
  have hrig := jR_rig hr
  have hr' : r = 2 ∨ r = 61 := hr
  have hcue := (jR_cue hr hc).1
  refine JZ_iconst i_12_0 ?_
  refine JZ_istore_n i_12_1 (by rw [l_12]; decide) (by rfl) ?_
  refine JZ_iconst i_12_2 ?_
  refine JZ_istore_n i_12_3 (by rw [l_12]; decide) (by rfl) ?_
  refine JZ_fg (L' := [some (.ref (r + 11 + 8 * c)), some (.int (jI (0))), some (.int (jI (((0 : Nat) : Int))))]) ?_ (by repeat (first | exact trivial | refine ⟨rfl, ?_⟩))
  refine JZ_forP (σ := Int) (N := mc) (I := fun i s => s = opc ψ (r + 13 + 8 * c) i) (Lf := fun i s => [some (.ref (r + 11 + 8 * c)), some (.int (jI (s))), some (.int (jI ((i : Int))))]) ?_ ?_ mc 0 0 (by omega) ?_
  · intro i s hi hI hK
    have hmv := jR_move hr hc (show i < 6 by omega)
    have hn := opc_nn ψ (r + 13 + 8 * c) i
    refine JZ_iload_n i_12_4 (by rfl) ?_
    refine JZ_aload_n i_12_5 (by rfl) ?_
    refine JZ_gB (key := 21) i_12_6 f_12_22 (by assumption) (by rfl) rfl hG (fun u6 v6 => ?_)
    refine JZ_icge (tg := 33) i_12_9 (by decide) (by omega) (by omega) (fun h9 => ?_) (fun h9 => ?_)
    · exfalso; omega
    refine JZ_aload_n i_12_12 (by rfl) ?_
    refine JZ_gMoves i_12_13 f_12_17 hr (by omega) ?_
    refine JZ_iload_n i_12_16 (by rfl) ?_
    refine JZ_aMove (i) i_12_17 hr (by omega) (by omega) (by omega) ?_
    refine JZ_gB (key := 44) i_12_18 f_12_39 (by assumption) (by rfl) rfl hG (fun u18 v18 => ?_)
    refine JZ_ifne (tg := 27) i_12_21 (by decide) (by omega) (fun h21 => ?_) (fun h21 => ?_)
    · refine JZ_iinc i_12_27 (by rfl) (by rw [l_12]; decide) (by rfl) ?_
      refine JZ_goto (tg := 4) i_12_30 (by decide) ?_
      first
        | exact JZ_fg (hK (s + 1) (by show _ = opc ψ (r + 13 + 8 * c) i + _; rw [if_pos h21]; omega)) (by repeat (first | exact trivial | refine ⟨rfl, ?_⟩))
        | exact JZ_fg (hK s (by show _ = opc ψ (r + 13 + 8 * c) i + _; rw [if_neg h21]; omega)) (by repeat (first | exact trivial | refine ⟨rfl, ?_⟩))
    refine JZ_iinc i_12_24 (by rfl) (by rw [l_12]; decide) (by rfl) ?_
    refine JZ_iinc i_12_27 (by rfl) (by rw [l_12]; decide) (by rfl) ?_
    refine JZ_goto (tg := 4) i_12_30 (by decide) ?_
    first
      | exact JZ_fg (hK (s + 1) (by show _ = opc ψ (r + 13 + 8 * c) i + _; rw [if_pos h21]; omega)) (by repeat (first | exact trivial | refine ⟨rfl, ?_⟩))
      | exact JZ_fg (hK s (by show _ = opc ψ (r + 13 + 8 * c) i + _; rw [if_neg h21]; omega)) (by repeat (first | exact trivial | refine ⟨rfl, ?_⟩))
  · intro s hI
    refine JZ_iload_n i_12_4 (by rfl) ?_
    refine JZ_aload_n i_12_5 (by rfl) ?_
    refine JZ_gB (key := 21) i_12_6 f_12_22 (by assumption) (by rfl) rfl hG (fun u6 v6 => ?_)
    refine JZ_icge (tg := 33) i_12_9 (by decide) (by omega) (by omega) (fun h9 => ?_) (fun h9 => ?_)
    · refine JZ_iload_n i_12_33 (by rfl) ?_
      refine JZ_iret i_12_34 r_12 ?_
      exact ⟨hI, rfl⟩
    exfalso; omega
  · exact rfl
/-- the open moves of the cue that runs -/
def opn (ψ : jSt) (r : Nat) : Int := if ψ r 87 = -1 then 0 else opc ψ (r + 13 + 8 * (ψ r 87).toNat) (ψ (r + 11 + 8 * (ψ r 87).toNat) 21).toNat
theorem opn_at {ψ : jSt} {r c mc : Nat} (h : ψ r 87 = (c : Int)) (hm : ψ (r + 11 + 8 * c) 21 = (mc : Int)) : opn ψ r = opc ψ (r + 13 + 8 * c) mc := by
  unfold opn
  rw [if_neg (by omega), h, Int.toNat_natCast, hm, Int.toNat_natCast]
theorem m_13 {ψ : jSt} {r : Nat} (hr : jR2 r) (h87 : -1 ≤ ψ r 87 ∧ ψ r 87 < ψ r 83) (h83 : ψ r 83 ≤ 6) (hm : ∀ c : Nat, c < 6 → 0 ≤ ψ (r + 11 + 8 * c) 21 ∧ ψ (r + 11 + 8 * c) 21 ≤ 6) (hG : jG ψ) : JZ Eq xs L0 13 0 ([some (.ref r)] ++ List.replicate 0 none) [] ψ (oI fun x ψ' => x = opn ψ r ∧ ψ' = ψ) := by
  have hrig := jR_rig hr
  have hr' : r = 2 ∨ r = 61 := hr
  refine JZ_aload_n i_13_0 (by rfl) ?_
  refine JZ_gB (key := 87) i_13_1 f_13_15 (by assumption) (by rfl) rfl hG (fun u1 v1 => ?_)
  refine JZ_iconst i_13_4 ?_
  refine JZ_icne (tg := 12) i_13_5 (by decide) (by omega) (by omega) (fun h5 => ?_) (fun h5 => ?_)
  · obtain ⟨c, hcc⟩ := Int.eq_ofNat_of_zero_le (show 0 ≤ ψ r 87 by omega)
    have hm0 := hm c (by omega)
    obtain ⟨mc, hmm⟩ := Int.eq_ofNat_of_zero_le hm0.1
    have hcue := (jR_cue hr (show c < 6 by omega)).1
    refine JZ_aload_n i_13_12 (by rfl) ?_
    refine JZ_aload_n i_13_13 (by rfl) ?_
    refine JZ_gB (key := 87) i_13_14 f_13_15 (by assumption) (by rfl) rfl hG (fun u14 v14 => ?_)
    refine JZ_v1A (j := 0) i_13_17 v_13_96 (by decide +kernel) rfl rfl (Nat.le_of_ble_eq_true rfl) (by assumption) rfl rfl (m_11 hr c hcc (by omega) (by omega) hG) ?_
    refine JZ_v0P (j := 2) i_13_20 v_13_103 (by decide +kernel) rfl rfl (Nat.le_of_ble_eq_true rfl) (by assumption) rfl rfl (m_12 hr c (by omega) mc hmm (by omega) hG) (fun x2 hq20 => ?_)
    refine JZ_iret i_13_23 r_13 ?_
    first | exact ⟨by unfold opn; rw [if_pos h5], rfl⟩ | exact ⟨by rw [hq20, opn_at hcc hmm], rfl⟩
  refine JZ_iconst i_13_8 ?_
  refine JZ_goto (tg := 23) i_13_9 (by decide) ?_
  refine JZ_iret i_13_23 r_13 ?_
  first | exact ⟨by unfold opn; rw [if_pos h5], rfl⟩ | exact ⟨by rw [hq20, opn_at hcc hmm], rfl⟩
/-- the first k moves of a row are opened -/
def oaR (ψ : jSt) (a k : Nat) (φ : jSt) : Prop := jG φ ∧ (∀ j, j < k → φ (a + j) 44 = 0 ∧ φ (a + j) 45 = 0) ∧ (∀ x y, ¬ ((y = 44 ∨ y = 45) ∧ a ≤ x ∧ x < a + k) → φ x y = ψ x y)
theorem oaR_step {ψ φ φ' : jSt} {a k : Nat} (h : oaR ψ a k φ) (hG : jG φ') (e : φ' = jU (jU φ (a + k) 44 0) (a + k) 45 0) : oaR ψ a (k + 1) φ' := by
  obtain ⟨h0, h1, h2⟩ := h
  subst e
  refine ⟨hG, fun j hj => ?_, fun x y hxy => ?_⟩
  · rcases Nat.lt_or_eq_of_le (Nat.lt_succ_iff.mp hj) with hj | rfl
    · obtain ⟨e1, e2⟩ := h1 j hj
      have hne : ¬ a + j = a + k := by omega
      simp [jU, hne, e1, e2]
    · simp [jU]
  · rw [← h2 x y (by omega)]
    unfold jU
    rw [if_neg (by omega), if_neg (by omega)]
theorem m_34 {ψ : jSt} {r : Nat} (hr : jR2 r) (c : Nat) (hc : c < 6) (mc : Nat) (hmc : ψ (r + 11 + 8 * c) 21 = (mc : Int)) (hm6 : mc ≤ 6) (hG : jG ψ) : JZ Eq xs L0 34 0 ([some (.ref (r + 11 + 8 * c))] ++ List.replicate 1 none) [] ψ (oV (oaR ψ (r + 13 + 8 * c) mc)) := by
  have hrig := jR_rig hr
  have hr' : r = 2 ∨ r = 61 := hr
  have hcue := (jR_cue hr hc).1
  refine JZ_iconst i_34_0 ?_
  refine JZ_istore_n i_34_1 (by rw [l_34]; decide) (by rfl) ?_
  refine JZ_fg (L' := [some (.ref (r + 11 + 8 * c)), some (.int (jI (((0 : Nat) : Int))))]) ?_ (by repeat (first | exact trivial | refine ⟨rfl, ?_⟩))
  refine JZ_for (σ := Unit) (N := mc) (I := fun i _ φ => oaR ψ (r + 13 + 8 * c) i φ) (Lf := fun i _ => [some (.ref (r + 11 + 8 * c)), some (.int (jI ((i : Int))))]) ?_ ?_ mc 0 () ψ (by omega) ?_
  · intro i s φ hi hI hK
    have hG := hI.1
    have hmv := jR_move hr hc (show i < 6 by omega)
    have e21 : φ (r + 11 + 8 * c) 21 = ψ (r + 11 + 8 * c) 21 := hI.2.2 _ _ (by omega)
    refine JZ_iload_n i_34_2 (by rfl) ?_
    refine JZ_aload_n i_34_3 (by rfl) ?_
    refine JZ_gB (key := 21) i_34_4 f_34_22 (by assumption) (by rfl) rfl hG (fun u4 v4 => ?_)
    refine JZ_icge (tg := 36) i_34_7 (by decide) (by omega) (by omega) (fun h7 => ?_) (fun h7 => ?_)
    · exfalso; omega
    refine JZ_aload_n i_34_10 (by rfl) ?_
    refine JZ_gMoves i_34_11 f_34_17 hr (by omega) ?_
    refine JZ_iload_n i_34_14 (by rfl) ?_
    refine JZ_aMove (i) i_34_15 hr (by omega) (by omega) (by omega) ?_
    refine JZ_iconst i_34_16 ?_
    refine JZ_pB (key := 44) i_34_17 f_34_39 (by assumption) (by rfl) rfl (Or.inl t_2_4) (by rfl) hG (by omega) (fun hG => ?_)
    refine JZ_aload_n i_34_20 (by rfl) ?_
    refine JZ_gMoves i_34_21 f_34_17 hr (by omega) ?_
    refine JZ_iload_n i_34_24 (by rfl) ?_
    refine JZ_aMove (i) i_34_25 hr (by omega) (by omega) (by omega) ?_
    refine JZ_iconst i_34_26 ?_
    refine JZ_pB (key := 45) i_34_27 f_34_42 (by assumption) (by rfl) rfl (Or.inl t_2_5) (by rfl) hG (by omega) (fun hG => ?_)
    refine JZ_iinc i_34_30 (by rfl) (by rw [l_34]; decide) (by rfl) ?_
    refine JZ_goto (tg := 2) i_34_33 (by decide) ?_
    exact JZ_fg (hK () _ (oaR_step hI hG rfl)) (by repeat (first | exact trivial | refine ⟨rfl, ?_⟩))
  · intro s φ hI
    have hG := hI.1
    have e21 : φ (r + 11 + 8 * c) 21 = ψ (r + 11 + 8 * c) 21 := hI.2.2 _ _ (by omega)
    refine JZ_iload_n i_34_2 (by rfl) ?_
    refine JZ_aload_n i_34_3 (by rfl) ?_
    refine JZ_gB (key := 21) i_34_4 f_34_22 (by assumption) (by rfl) rfl hG (fun u4 v4 => ?_)
    refine JZ_icge (tg := 36) i_34_7 (by decide) (by omega) (by omega) (fun h7 => ?_) (fun h7 => ?_)
    · refine JZ_vret i_34_36 r_34 ?_
      exact hI
    exfalso; omega
  · exact ⟨hG, fun j hj => absurd hj (Nat.not_lt_zero j), fun x y _ => rfl⟩
def q35 (ψ : jSt) (r c mc : Nat) (φ : jSt) : Prop := jG φ ∧ φ r 87 = (c : Int) ∧ φ r 88 = 0 ∧ φ r 89 = 0 ∧ (∀ j, j < mc → φ (r + 13 + 8 * c + j) 44 = 0 ∧ φ (r + 13 + 8 * c + j) 45 = 0) ∧ (∀ x y, ¬ ((y = 44 ∨ y = 45) ∧ r + 13 + 8 * c ≤ x ∧ x < r + 13 + 8 * c + mc) → ¬ (x = r ∧ 87 ≤ y ∧ y ≤ 89) → φ x y = ψ x y)
theorem m_35 {ψ : jSt} {r : Nat} (hr : jR2 r) {x : Int} (c : Nat) (hc : c < 6) (mc : Nat) (hmc : ψ (r + 11 + 8 * c) 21 = (mc : Int)) (hm6 : mc ≤ 6) (hcx : x = (c : Int)) (hcn : x < ψ r 83) (h83 : ψ r 83 ≤ 6) (hG : jG ψ) : JZ Eq xs L0 35 0 ([some (.ref r), some (.int (jI x))] ++ List.replicate 0 none) [] ψ (oV (q35 ψ r c mc)) := by
  have hrig := jR_rig hr
  have hr' : r = 2 ∨ r = 61 := hr
  have hcue := (jR_cue hr hc).1
  refine JZ_aload_n i_35_0 (by rfl) ?_
  refine JZ_iload_n i_35_1 (by rfl) ?_
  refine JZ_v1A (j := 0) i_35_2 v_35_96 (by decide +kernel) rfl rfl (Nat.le_of_ble_eq_true rfl) (by assumption) rfl rfl (m_11 hr c hcx (by omega) (by omega) hG) ?_
  refine JZ_v0V (j := 1) i_35_5 v_35_100 (by decide +kernel) rfl rfl (Nat.le_of_ble_eq_true rfl) (by assumption) rfl rfl (m_34 hr c (by omega) mc hmc hm6 hG) (fun ψ5 hQ5 => ?_)
  have hG := hQ5.1
  refine JZ_aload_n i_35_8 (by rfl) ?_
  refine JZ_iload_n i_35_9 (by rfl) ?_
  refine JZ_pB (key := 87) i_35_10 f_35_15 (by assumption) (by rfl) rfl (Or.inl t_4_7) (by rfl) hG (by omega) (fun hG => ?_)
  refine JZ_aload_n i_35_13 (by rfl) ?_
  refine JZ_iconst i_35_14 ?_
  refine JZ_pB (key := 88) i_35_15 f_35_56 (by assumption) (by rfl) rfl (Or.inr ⟨t_4_8, by omega⟩) (by rfl) hG (by omega) (fun hG => ?_)
  refine JZ_aload_n i_35_18 (by rfl) ?_
  refine JZ_iconst i_35_19 ?_
  refine JZ_pB (key := 89) i_35_20 f_35_60 (by assumption) (by rfl) rfl (Or.inl t_4_9) (by rfl) hG (by omega) (fun hG => ?_)
  refine JZ_vret i_35_23 r_35 ?_
  refine ⟨hG, ?_, ?_, ?_, fun j hj => ?_, fun x y h1 h2 => ?_⟩
  · simp [jU, hcx]
  · simp [jU]
  · simp [jU]
  · simpa [jU] using hQ5.2.1 j hj
  · rw [← hQ5.2.2 x y h1]
    unfold jU
    rw [if_neg (by omega), if_neg (by omega), if_neg (by omega)]
theorem m_39 {ψ : jSt} {r : Nat} (hr : jR2 r) (hG : jG ψ) : JZ Eq xs L0 39 0 ([some (.ref r)] ++ List.replicate 0 none) [] ψ (oV fun φ => jG φ ∧ φ = jU (jU (jU ψ r 87 (-1)) r 88 0) r 89 0) := by
  have hrig := jR_rig hr
  have hr' : r = 2 ∨ r = 61 := hr
  refine JZ_aload_n i_39_0 (by rfl) ?_
  refine JZ_iconst i_39_1 ?_
  refine JZ_pB (key := 87) i_39_2 f_39_15 (by assumption) (by rfl) rfl (Or.inl t_4_7) (by rfl) hG (by omega) (fun hG => ?_)
  refine JZ_aload_n i_39_5 (by rfl) ?_
  refine JZ_iconst i_39_6 ?_
  refine JZ_pB (key := 88) i_39_7 f_39_56 (by assumption) (by rfl) rfl (Or.inr ⟨t_4_8, by omega⟩) (by rfl) hG (by omega) (fun hG => ?_)
  refine JZ_aload_n i_39_10 (by rfl) ?_
  refine JZ_iconst i_39_11 ?_
  refine JZ_pB (key := 89) i_39_12 f_39_60 (by assumption) (by rfl) rfl (Or.inl t_4_9) (by rfl) hG (by omega) (fun hG => ?_)
  refine JZ_vret i_39_15 r_39 ?_
  exact ⟨hG, rfl⟩
def q52 (ψ : jSt) (r : Nat) (φ : jSt) : Prop := jG φ ∧ φ r 91 = ψ r 91 + 1 ∧ φ r 88 = 0 ∧ φ r 89 = 0
  ∧ (φ r 87 = -1 ∨ ∃ c : Nat, φ r 87 = (c : Int) ∧ (c : Int) < ψ r 83 ∧ ∀ m : Nat, (m : Int) < ψ (r + 11 + 8 * c) 21 → φ (r + 13 + 8 * c + m) 44 = 0 ∧ φ (r + 13 + 8 * c + m) 45 = 0)
  ∧ (∀ x y, ¬ ((y = 44 ∨ y = 45) ∧ ∃ c m : Nat, (c : Int) < ψ r 83 ∧ (m : Int) < ψ (r + 11 + 8 * c) 21 ∧ x = r + 13 + 8 * c + m) → ¬ (x = r ∧ (y = 91 ∨ (87 ≤ y ∧ y ≤ 89))) → φ x y = ψ x y)
  ∧ (∀ x y, (y = 44 ∨ y = 45) → φ x y = ψ x y ∨ φ x y = 0)
theorem q52a {ψ ψ1 : jSt} {r : Nat} (hg91 : ψ1 r 91 = ψ r 91 + 1) (hg87 : ψ1 r 87 = -1) (hg88 : ψ1 r 88 = 0) (hg89 : ψ1 r 89 = 0) (hgo : ∀ x k, ¬ k = 91 → ¬ k = 87 → ¬ k = 88 → ¬ k = 89 → ψ1 x k = ψ x k) (hgn : ∀ x k, ¬ x = r → ψ1 x k = ψ x k) (hG : jG ψ1) : q52 ψ r ψ1 :=
  ⟨hG, hg91, hg88, hg89, Or.inl hg87, fun x y h1 h2 => by
    by_cases hx : x = r
    · exact hgo x y (by omega) (by omega) (by omega) (by omega)
    · exact hgn x y hx, fun x y hy => Or.inl (hgo x y (by omega) (by omega) (by omega) (by omega))⟩
theorem q52b {ψ ψ1 φ : jSt} {r c mc : Nat} {f : Int} (hg91 : ψ1 r 91 = ψ r 91 + 1) (hgo : ∀ x k, ¬ k = 91 → ¬ k = 87 → ¬ k = 88 → ¬ k = 89 → ψ1 x k = ψ x k) (hgn : ∀ x k, ¬ x = r → ψ1 x k = ψ x k) (hc0 : f = (c : Int)) (hcf : f < ψ r 83) (hmm : ψ (r + 11 + 8 * c) 21 = (mc : Int)) (h : q35 ψ1 r c mc φ) : q52 ψ r φ := by
  obtain ⟨hG, h87, h88, h89, h4, h5⟩ := h
  refine ⟨hG, ?_, h88, h89, Or.inr ⟨c, h87, by omega, fun m hm => h4 m (by omega)⟩, fun x y h1 h2 => ?_, fun x y hy => ?_⟩
  · rw [h5 r 91 (by omega) (by omega), hg91]
  · have h6 : ¬ ((y = 44 ∨ y = 45) ∧ r + 13 + 8 * c ≤ x ∧ x < r + 13 + 8 * c + mc) := fun q => h1 ⟨q.1, c, x - (r + 13 + 8 * c), by omega, by omega, by omega⟩
    rw [h5 x y h6 (by omega)]
    by_cases hx : x = r
    · exact hgo x y (by omega) (by omega) (by omega) (by omega)
    · exact hgn x y hx
  · by_cases h6 : r + 13 + 8 * c ≤ x ∧ x < r + 13 + 8 * c + mc
    · have h7 := h4 (x - (r + 13 + 8 * c)) (by omega)
      rw [show r + 13 + 8 * c + (x - (r + 13 + 8 * c)) = x by omega] at h7
      rcases hy with rfl | rfl
      · exact Or.inr h7.1
      · exact Or.inr h7.2
    · rw [h5 x y (by omega) (by omega)]
      exact Or.inl (hgo x y (by omega) (by omega) (by omega) (by omega))
theorem m_52 {ψ : jSt} {r : Nat} (hr : jR2 r) {f : Int} (hf : -1 ≤ f ∧ f ≤ 5) (h83 : 0 ≤ ψ r 83 ∧ ψ r 83 ≤ 6) (h91 : 0 ≤ ψ r 91 ∧ ψ r 91 ≤ 40000) (hm : ∀ c : Nat, c < 6 → 0 ≤ ψ (r + 11 + 8 * c) 21 ∧ ψ (r + 11 + 8 * c) 21 ≤ 6) (hG : jG ψ) : JZ Eq xs L0 52 0 ([some (.ref r), some (.int (jI f))] ++ List.replicate 0 none) [] ψ (oV (q52 ψ r)) := by
  have hrig := jR_rig hr
  have hr' : r = 2 ∨ r = 61 := hr
  refine JZ_aload_n i_52_0 (by rfl) ?_
  refine JZ_dup i_52_1 rfl ?_
  refine JZ_gB (key := 91) i_52_2 f_52_66 (by assumption) (by rfl) rfl hG (fun u2 v2 => ?_)
  refine JZ_iconst i_52_5 ?_
  refine JZ_iadd i_52_6 ?_
  refine JZ_pB (key := 91) i_52_7 f_52_66 (by assumption) (by rfl) rfl (Or.inl t_4_11) (by rfl) hG (by omega) (fun hG => ?_)
  refine JZ_aload_n i_52_10 (by rfl) ?_
  refine JZ_v0V (j := 0) i_52_11 v_52_205 (by decide +kernel) rfl rfl (Nat.le_of_ble_eq_true rfl) (by assumption) rfl rfl (m_39 hr hG) (fun ψ1 hQ11 => ?_)
  obtain ⟨hG, hψ1⟩ := hQ11
  have hg91 : ψ1 r 91 = ψ r 91 + 1 := by rw [hψ1]; simp [jU]
  have hg91n : ∀ x, ¬ x = r → ψ1 x 91 = ψ x 91 := fun x hx => by rw [hψ1]; simp [jU, hx]
  have hg87 : ψ1 r 87 = -1 := by rw [hψ1]; simp [jU]
  have hg87n : ∀ x, ¬ x = r → ψ1 x 87 = ψ x 87 := fun x hx => by rw [hψ1]; simp [jU, hx]
  have hg88 : ψ1 r 88 = 0 := by rw [hψ1]; simp [jU]
  have hg88n : ∀ x, ¬ x = r → ψ1 x 88 = ψ x 88 := fun x hx => by rw [hψ1]; simp [jU, hx]
  have hg89 : ψ1 r 89 = 0 := by rw [hψ1]; simp [jU]
  have hg89n : ∀ x, ¬ x = r → ψ1 x 89 = ψ x 89 := fun x hx => by rw [hψ1]; simp [jU, hx]
  have hgo : ∀ x k, ¬ k = 91 → ¬ k = 87 → ¬ k = 88 → ¬ k = 89 → ψ1 x k = ψ x k := fun x k h91 h87 h88 h89 => by rw [hψ1]; simp [jU, h91, h87, h88, h89]
  have hgn : ∀ x k, ¬ x = r → ψ1 x k = ψ x k := fun x k hx => by rw [hψ1]; simp [jU, hx]
  refine JZ_iload_n i_52_14 (by rfl) ?_
  refine JZ_iconst i_52_15 ?_
  refine JZ_iceq (tg := 32) i_52_16 (by decide) (by omega) (by omega) (fun h16 => ?_) (fun h16 => ?_)
  · refine JZ_vret i_52_32 r_52 ?_
    first
      | exact q52a hg91 hg87 hg88 hg89 hgo hgn hG
      | exact q52b hg91 hgo hgn hc0 (by omega) hmm hQ29
  have e83 := hgo r 83 (by decide) (by decide) (by decide) (by decide)
  refine JZ_iload_n i_52_19 (by rfl) ?_
  refine JZ_aload_n i_52_20 (by rfl) ?_
  refine JZ_gB (key := 83) i_52_21 f_52_44 (by assumption) (by rfl) rfl hG (fun u21 v21 => ?_)
  refine JZ_icge (tg := 32) i_52_24 (by decide) (by omega) (by omega) (fun h24 => ?_) (fun h24 => ?_)
  · refine JZ_vret i_52_32 r_52 ?_
    first
      | exact q52a hg91 hg87 hg88 hg89 hgo hgn hG
      | exact q52b hg91 hgo hgn hc0 (by omega) hmm hQ29
  obtain ⟨c, hc0⟩ := Int.eq_ofNat_of_zero_le (show 0 ≤ f by omega)
  have e83 := hgo r 83 (by decide) (by decide) (by decide) (by decide)
  have hm0 := hm c (by omega)
  obtain ⟨mc, hmm⟩ := Int.eq_ofNat_of_zero_le hm0.1
  refine JZ_aload_n i_52_27 (by rfl) ?_
  refine JZ_iload_n i_52_28 (by rfl) ?_
  refine JZ_v1V (j := 0) i_52_29 v_52_208 (by decide +kernel) rfl rfl (Nat.le_of_ble_eq_true rfl) (by assumption) rfl rfl (m_35 hr c (by omega) mc (by rw [hgo _ _ (by decide) (by decide) (by decide) (by decide)]; exact hmm) (by omega) hc0 (by omega) (by omega) hG) (fun ψ2 hQ29 => ?_)
  refine JZ_vret i_52_32 r_52 ?_
  first
    | exact q52a hg91 hg87 hg88 hg89 hgo hgn hG
    | exact q52b hg91 hgo hgn hc0 (by omega) hmm hQ29
end P29
