/-! the moves of a second: playMoves -/
section P31
variable {xs : Nat → Int32} {L0 : Nat}
theorem pmR_b {ψ φ : jSt} {r c n mc m : Nat} (h : pmR ψ φ r c n mc m) (hm : m ≤ 6) (h88 : φ r 88 = 0) (h88' : ψ r 88 = 0) : φ r 93 = ψ r 93 ∧ (ψ r 90 ≤ φ r 90 ∧ φ r 90 ≤ ψ r 90 + 6) ∧ (ψ r 92 ≤ φ r 92 ∧ φ r 92 ≤ ψ r 92 + 6) ∧ (ψ r 96 ≤ φ r 96 ∧ φ r 96 ≤ ψ r 96 + 6) ∧ (ψ r 85 - 6 ≤ φ r 85 ∧ φ r 85 ≤ ψ r 85) ∧ φ r 89 = ψ r 89 := by
  obtain ⟨⟨_, _, h3, _⟩, h4, h5, h6, h7, h8⟩ := h
  have ho := opc_nn ψ (r + 13 + 8 * c) m
  refine ⟨?_, by omega, by omega, by omega, by omega, h3⟩
  rcases h8 with q | ⟨q1, q2, q3⟩
  · exact q.1
  · omega
theorem pmB_b {ψ φ : jSt} {r c m b : Nat} (h : pmB ψ φ r c m b) : (0 ≤ φ (r + 2 + b) 3 ∧ φ (r + 2 + b) 3 ≤ 120) ∧ (ψ (r + 2 + b) 11 ≤ φ (r + 2 + b) 11 ∧ φ (r + 2 + b) 11 ≤ ψ (r + 2 + b) 11 + 6) := by
  obtain ⟨h1, h2, h3, g, h4, h5, h6, h7, h8⟩ := h
  exact ⟨⟨h1, h2⟩, by omega, by omega⟩
theorem PM_zero {ψ : jSt} {r c n mc : Nat} (hG : jG ψ) (hr : r = 2 ∨ r = 61) (hb : ∀ b, b < n → 0 ≤ ψ (r + 2 + b) 3 ∧ ψ (r + 2 + b) 3 ≤ 120) : PM ψ r c n mc 0 ψ :=
  ⟨hG, jFr_rf, fun b h => ⟨(hb b h).1, (hb b h).2, rfl, 0, by omega, by omega, by omega, by omega, Or.inl rfl⟩, fun _ _ _ _ h => h, fun c' m' _ _ => ⟨Or.inl rfl, by omega, by omega, fun _ => rfl⟩, ⟨rfl, rfl, rfl, rfl, rfl, rfl⟩, by omega, by
    show _ ∧ _ ≤ ψ r 90 + 0
    omega, by omega, by omega, Or.inl ⟨rfl, rfl, rfl⟩⟩
def q49 (ψ : jSt) (r c n mc : Nat) (φ : jSt) : Prop := ∃ (m : Nat) (ψ1 : jSt), m ≤ mc ∧ ψ1 = jU (jU ψ r 89 (ψ r 89 + 1)) r 85 (ψ r 84) ∧ PM ψ1 r c n mc m φ
theorem m_49 {ψ : jSt} {r : Nat} (hr : jR2 r) (n : Nat) (hn : ψ r 81 = (n : Int)) (hn8 : n ≤ 8) (c : Nat) (hc : c < 6) (hcn : (c : Int) < ψ r 83) (mc : Nat) (hmc : ψ (r + 11 + 8 * c) 21 = (mc : Int)) (hm6 : mc ≤ 6) (hS : jS ψ r) (h88 : ψ r 88 = 0)
  (hb : ∀ b, b < n → (0 ≤ ψ (r + 2 + b) 3 ∧ ψ (r + 2 + b) 3 ≤ 120) ∧ (0 ≤ ψ (r + 2 + b) 11 ∧ ψ (r + 2 + b) 11 ≤ 38000)) (hm45 : ∀ m : Nat, m < mc → 0 ≤ ψ (r + 13 + 8 * c + m) 45 ∧ ψ (r + 13 + 8 * c + m) 45 ≤ 38000)
  (h89 : 0 ≤ ψ r 89 ∧ ψ r 89 ≤ 38000) (h90 : 0 ≤ ψ r 90 ∧ ψ r 90 ≤ 38000) (h92 : 0 ≤ ψ r 92 ∧ ψ r 92 ≤ 38000) (h93 : 0 ≤ ψ r 93 ∧ ψ r 93 ≤ 38000) (h96 : 0 ≤ ψ r 96 ∧ ψ r 96 ≤ 38000) (hG : jG ψ) : JZ Eq xs L0 49 0 ([some (.ref r), some (.ref (r + 11 + 8 * c))] ++ List.replicate 3 none) [] ψ (oV (q49 ψ r c n mc)) := by
  have hrig := jR_rig hr
  have hr' : r = 2 ∨ r = 61 := hr
  have hcue := (jR_cue hr hc).1
  obtain ⟨s81, s83, s84, sB, sC, sM, sD⟩ := id hS
  refine JZ_aload_n i_49_0 (by rfl) ?_
  refine JZ_dup i_49_1 rfl ?_
  refine JZ_gB (key := 89) i_49_2 f_49_60 (by assumption) (by rfl) rfl hG (fun u2 v2 => ?_)
  refine JZ_iconst i_49_5 ?_
  refine JZ_iadd i_49_6 ?_
  refine JZ_pB (key := 89) i_49_7 f_49_60 (by assumption) (by rfl) rfl (Or.inl t_4_9) (by rfl) hG (by omega) (fun hG => ?_)
  refine JZ_aload_n i_49_10 (by rfl) ?_
  refine JZ_aload_n i_49_11 (by rfl) ?_
  refine JZ_gB (key := 84) i_49_12 f_49_9 (by assumption) (by rfl) rfl hG (fun u12 v12 => ?_)
  refine JZ_pB (key := 85) i_49_15 f_49_50 (by assumption) (by rfl) rfl (Or.inl t_4_5) (by rfl) hG (by omega) (fun hG => ?_)
  refine JZ_iconst i_49_18 ?_
  refine JZ_istore_n i_49_19 (by rw [l_49]; decide) (by rfl) ?_
  obtain ⟨ψ1, hψ1⟩ : ∃ χ, χ = jU (jU ψ r 89 (ψ r 89 + 1)) r 85 (jU ψ r 89 (ψ r 89 + 1) r 84) := ⟨_, rfl⟩
  rw [← hψ1]
  rw [← hψ1] at hG
  have e84 : jU ψ r 89 (ψ r 89 + 1) r 84 = ψ r 84 := jU_nk (by decide)
  rw [e84] at hψ1
  have f89 : ψ1 r 89 = ψ r 89 + 1 := by rw [hψ1]; simp [jU]
  have f89n : ∀ x, ¬ x = r → ψ1 x 89 = ψ x 89 := fun x hx => by rw [hψ1]; simp [jU, hx]
  have f85 : ψ1 r 85 = ψ r 84 := by rw [hψ1]; simp [jU]
  have f85n : ∀ x, ¬ x = r → ψ1 x 85 = ψ x 85 := fun x hx => by rw [hψ1]; simp [jU, hx]
  have fo : ∀ x k, ¬ k = 89 → ¬ k = 85 → ψ1 x k = ψ x k := fun x k h89 h85 => by rw [hψ1]; simp [jU, h89, h85]
  have fk : ∀ x k, ¬ (k = 89 ∨ k = 85) → ψ1 x k = ψ x k := fun x k hk => fo x k (by omega) (by omega)
  have hS1 : jS ψ1 r := jS_fr (fun a k hk => fk a k (by omega)) hS
  have hn1 : ψ1 r 81 = (n : Int) := by rw [fk r 81 (by decide)]; exact hn
  have hcn1 : (c : Int) < ψ1 r 83 := by rw [fk r 83 (by decide)]; exact hcn
  have hmc1 : ψ1 (r + 11 + 8 * c) 21 = (mc : Int) := by rw [fk _ 21 (by decide)]; exact hmc
  have g88 := fk r 88 (by decide)
  have g90 := fk r 90 (by decide)
  have g92 := fk r 92 (by decide)
  have g93 := fk r 93 (by decide)
  have g96 := fk r 96 (by decide)
  clear sB sC sM sD
  obtain ⟨s81, s83, s84, sB, sC, sM, sD⟩ := id hS1
  have hS6 : ∀ c' : Nat, c' < 6 → ψ1 (r + 11 + 8 * c') 21 ≤ 6 := fun c' h => (sC c' h).1.2
  have hdis : ∀ m1 m2 : Nat, m1 < mc → m2 < mc → ψ1 (r + 13 + 8 * c + m1) 40 = ψ1 (r + 13 + 8 * c + m2) 40 → m1 = m2 := fun m1 m2 h1 h2 h3 => sD c m1 m2 hc (by omega) (by omega) h3
  refine JZ_fg (L' := [some (.ref r), some (.ref (r + 11 + 8 * c)), some (.int (jI (((0 : Nat) : Int)))), none, none]) ?_ (by repeat (first | exact trivial | refine ⟨rfl, ?_⟩))
  refine JZ_for (σ := Unit) (N := mc) (I := fun i _ φ => PM ψ1 r c n mc i φ) (Lf := fun i _ => [some (.ref r), some (.ref (r + 11 + 8 * c)), some (.int (jI ((i : Int)))), none, none]) ?_ ?_ mc 0 () ψ1 (by omega) ?_
  · intro i u φ hi hI hK
    obtain ⟨hG, hF, hB, hT, hM, hR⟩ := id hI
    have e21 : φ (r + 11 + 8 * c) 21 = (mc : Int) := by rw [jD_key hF (by decide)]; exact hmc1
    have hmv := jR_move hr hc (show i < 6 by omega)
    have hml := jSk_lt hmv
    refine JZ_iload_n i_49_20 (by rfl) ?_
    refine JZ_aload_n i_49_21 (by rfl) ?_
    refine JZ_gB (key := 21) i_49_22 f_49_126 (by assumption) (by rfl) rfl hG (fun u22 v22 => ?_)
    refine JZ_icge (tg := 95) i_49_25 (by decide) (by omega) (by omega) (fun h25 => ?_) (fun h25 => ?_)
    · refine JZ_vret i_49_95 r_49 ?_
      exact ⟨_, ψ1, (by omega), hψ1, hI⟩
    refine JZ_aload_n i_49_28 (by rfl) ?_
    refine JZ_gB (key := 88) i_49_29 f_49_56 (by assumption) (by rfl) rfl hG (fun u29 v29 => ?_)
    refine JZ_ifne (tg := 95) i_49_32 (by decide) (by omega) (fun h32 => ?_) (fun h32 => ?_)
    · refine JZ_vret i_49_95 r_49 ?_
      exact ⟨_, ψ1, (by omega), hψ1, hI⟩
    refine JZ_aload_n i_49_35 (by rfl) ?_
    refine JZ_gMoves i_49_36 f_49_129 hr (by omega) ?_
    refine JZ_iload_n i_49_39 (by rfl) ?_
    refine JZ_aMove (i) i_49_40 hr (by omega) (by omega) (by omega) ?_
    refine JZ_astore_n i_49_41 (by rw [l_49]; decide) (by rfl) (by omega) ?_
    have hsm := sM c i hc (by omega)
    obtain ⟨b, hbx⟩ := Int.eq_ofNat_of_zero_le hsm.1
    have e40 : φ (r + 13 + 8 * c + i) 40 = ψ1 (r + 13 + 8 * c + i) 40 := jD_key hF (by decide)
    have e41 : φ (r + 13 + 8 * c + i) 41 = ψ1 (r + 13 + 8 * c + i) 41 := jD_key hF (by decide)
    have e42 : φ (r + 13 + 8 * c + i) 42 = ψ1 (r + 13 + 8 * c + i) 42 := jD_key hF (by decide)
    have e43 : φ (r + 13 + 8 * c + i) 43 = ψ1 (r + 13 + 8 * c + i) 43 := jD_key hF (by decide)
    have e81 : φ r 81 = (n : Int) := by rw [jD_key hF (by decide)]; exact hn1
    obtain ⟨k40, k40', k41, k41', k42, k42', k43, k43'⟩ := hsm
    have hbn : b < n := by omega
    have hbar := jR_bar hr (show b < 8 by omega)
    have hbl := jSk_lt hbar
    obtain ⟨hM1, hM2, hM3, hM4⟩ := hM c i hc (by omega)
    have e44 : φ (r + 13 + 8 * c + i) 44 = ψ1 (r + 13 + 8 * c + i) 44 := by
      rcases hM1 with q | q
      · exact q
      · omega
    obtain ⟨b1, b2⟩ := pmB_b (hB b hbn)
    obtain ⟨R93, R90, R92, R96, R85, R89⟩ := pmR_b hR (by omega) h32 (by omega)
    have hb0 : ψ1 (r + 2 + b) 11 = ψ (r + 2 + b) 11 := fk _ 11 (by decide)
    have hb11 := (hb b hbn).2
    have hm45 := hm45 i (by omega)
    have e45 : ψ1 (r + 13 + 8 * c + i) 45 = ψ (r + 13 + 8 * c + i) 45 := fk _ 45 (by decide)
    have e0 : φ (r + 2 + b) 0 = (b : Int) := by rw [jD_key hF (by decide)]; exact (sB b (by omega)).1
    refine JZ_aload_n i_49_42 (by rfl) ?_
    refine JZ_gB (key := 44) i_49_43 f_49_133 (by assumption) (by rfl) rfl hG (fun u43 v43 => ?_)
    refine JZ_ifne (tg := 89) i_49_46 (by decide) (by omega) (fun h46 => ?_) (fun h46 => ?_)
    · refine JZ_iinc i_49_89 (by rfl) (by rw [l_49]; decide) (by rfl) ?_
      refine JZ_goto (tg := 20) i_49_92 (by decide) ?_
      first
        | exact JZ_fg (hK () _ (PM_skip hI)) (by repeat (first | exact trivial | refine ⟨rfl, ?_⟩))
        | (rcases hq76 with ⟨_, e⟩ | ⟨_, e⟩ | ⟨e, _⟩
           · exact JZ_fg (hK () _ (PM_ref hr' hI hc hcn1 hmc1 hi hm6 h0s hG2 hS6 h32 e)) (by repeat (first | exact trivial | refine ⟨rfl, ?_⟩))
           · exact JZ_fg (hK () _ (PM_late hr' hI hc hcn1 hmc1 hi hm6 h0s hG2 hS6 h32 e)) (by repeat (first | exact trivial | refine ⟨rfl, ?_⟩))
           · exact absurd h79 (by omega))
        | (rcases hq86 with e | ⟨t, g, s, d, ht0, ht1, hg1, hg2, hg3, hsd, hTT, e⟩
           · exact JZ_fg (hK () _ (PM_near hr' hI hc hcn1 hmc1 hi hm6 h0s hG3 hS6 h32 hv3 hbn e0 e)) (by repeat (first | exact trivial | refine ⟨rfl, ?_⟩))
           · exact JZ_fg (hK () _ (PM_go hr' hI hc hcn1 hmc1 hi hm6 h0s hG3 hS6 h32 hv3 hbn hn1 hbx hdis ⟨ht0, ht1⟩ hg1 hg2 hg3 hsd hTT e)) (by repeat (first | exact trivial | refine ⟨rfl, ?_⟩)))
    refine JZ_aload_n i_49_49 (by rfl) ?_
    refine JZ_gB (key := 43) i_49_50 f_49_138 (by assumption) (by rfl) rfl hG (fun u50 v50 => ?_)
    refine JZ_aload_n i_49_53 (by rfl) ?_
    refine JZ_gB (key := 89) i_49_54 f_49_60 (by assumption) (by rfl) rfl hG (fun u54 v54 => ?_)
    refine JZ_iconst i_49_57 ?_
    refine JZ_isub i_49_58 ?_
    refine JZ_icgt (tg := 89) i_49_59 (by decide) (by omega) (by omega) (fun h59 => ?_) (fun h59 => ?_)
    · refine JZ_iinc i_49_89 (by rfl) (by rw [l_49]; decide) (by rfl) ?_
      refine JZ_goto (tg := 20) i_49_92 (by decide) ?_
      first
        | exact JZ_fg (hK () _ (PM_skip hI)) (by repeat (first | exact trivial | refine ⟨rfl, ?_⟩))
        | (rcases hq76 with ⟨_, e⟩ | ⟨_, e⟩ | ⟨e, _⟩
           · exact JZ_fg (hK () _ (PM_ref hr' hI hc hcn1 hmc1 hi hm6 h0s hG2 hS6 h32 e)) (by repeat (first | exact trivial | refine ⟨rfl, ?_⟩))
           · exact JZ_fg (hK () _ (PM_late hr' hI hc hcn1 hmc1 hi hm6 h0s hG2 hS6 h32 e)) (by repeat (first | exact trivial | refine ⟨rfl, ?_⟩))
           · exact absurd h79 (by omega))
        | (rcases hq86 with e | ⟨t, g, s, d, ht0, ht1, hg1, hg2, hg3, hsd, hTT, e⟩
           · exact JZ_fg (hK () _ (PM_near hr' hI hc hcn1 hmc1 hi hm6 h0s hG3 hS6 h32 hv3 hbn e0 e)) (by repeat (first | exact trivial | refine ⟨rfl, ?_⟩))
           · exact JZ_fg (hK () _ (PM_go hr' hI hc hcn1 hmc1 hi hm6 h0s hG3 hS6 h32 hv3 hbn hn1 hbx hdis ⟨ht0, ht1⟩ hg1 hg2 hg3 hsd hTT e)) (by repeat (first | exact trivial | refine ⟨rfl, ?_⟩)))
    have h0s : ψ1 (r + 13 + 8 * c + i) 44 = 0 := by omega
    refine JZ_aload_n i_49_62 (by rfl) ?_
    refine JZ_aload_n i_49_63 (by rfl) ?_
    refine JZ_gB (key := 40) i_49_64 f_49_141 (by assumption) (by rfl) rfl hG (fun u64 v64 => ?_)
    refine JZ_v1A (j := 0) i_49_67 v_49_144 (by decide +kernel) rfl rfl (Nat.le_of_ble_eq_true rfl) (by assumption) rfl rfl (m_16 hr b (by omega) (by omega) (by omega) hG) ?_
    refine JZ_astore i_49_70 (by rw [l_49]; decide) (by rfl) (by omega) ?_
    refine JZ_aload_n i_49_72 (by rfl) ?_
    refine JZ_aload_n i_49_73 (by rfl) ?_
    refine JZ_aload i_49_74 (by rfl) ?_
    refine JZ_v2I (j := 1) i_49_76 v_49_148 (by decide +kernel) rfl rfl (Nat.le_of_ble_eq_true rfl) (by assumption) (by first | rfl | (simp only [List.all_cons, List.all_nil, g_ok, Bool.and_true, Bool.true_and, Bool.and_eq_true, decide_eq_true_eq] <;> first | assumption | exact ⟨by assumption, by assumption⟩ | exact ⟨by assumption, by assumption, by assumption⟩ | omega)) rfl (m_45 hr hmv hbar (by omega) (by omega) (by omega) hG) (fun x1 ψ2 hQ1 => ?_)
    obtain ⟨hG2, hq76⟩ := hQ1
    refine JZ_ifeq (tg := 89) i_49_79 (by decide) (by omega) (fun h79 => ?_) (fun h79 => ?_)
    · refine JZ_iinc i_49_89 (by rfl) (by rw [l_49]; decide) (by rfl) ?_
      refine JZ_goto (tg := 20) i_49_92 (by decide) ?_
      first
        | exact JZ_fg (hK () _ (PM_skip hI)) (by repeat (first | exact trivial | refine ⟨rfl, ?_⟩))
        | (rcases hq76 with ⟨_, e⟩ | ⟨_, e⟩ | ⟨e, _⟩
           · exact JZ_fg (hK () _ (PM_ref hr' hI hc hcn1 hmc1 hi hm6 h0s hG2 hS6 h32 e)) (by repeat (first | exact trivial | refine ⟨rfl, ?_⟩))
           · exact JZ_fg (hK () _ (PM_late hr' hI hc hcn1 hmc1 hi hm6 h0s hG2 hS6 h32 e)) (by repeat (first | exact trivial | refine ⟨rfl, ?_⟩))
           · exact absurd h79 (by omega))
        | (rcases hq86 with e | ⟨t, g, s, d, ht0, ht1, hg1, hg2, hg3, hsd, hTT, e⟩
           · exact JZ_fg (hK () _ (PM_near hr' hI hc hcn1 hmc1 hi hm6 h0s hG3 hS6 h32 hv3 hbn e0 e)) (by repeat (first | exact trivial | refine ⟨rfl, ?_⟩))
           · exact JZ_fg (hK () _ (PM_go hr' hI hc hcn1 hmc1 hi hm6 h0s hG3 hS6 h32 hv3 hbn hn1 hbx hdis ⟨ht0, ht1⟩ hg1 hg2 hg3 hsd hTT e)) (by repeat (first | exact trivial | refine ⟨rfl, ?_⟩)))
    have e2 : ψ2 = φ := by
      rcases hq76 with ⟨q, _⟩ | ⟨q, _⟩ | ⟨_, q⟩
      · exact absurd q h79
      · exact absurd q h79
      · exact q
    rw [e2]
    refine JZ_aload_n i_49_82 (by rfl) ?_
    refine JZ_aload_n i_49_83 (by rfl) ?_
    refine JZ_aload i_49_84 (by rfl) ?_
    refine JZ_v2V (j := 2) i_49_86 v_49_152 (by decide +kernel) rfl rfl (Nat.le_of_ble_eq_true rfl) (by assumption) (by first | rfl | (simp only [List.all_cons, List.all_nil, g_ok, Bool.and_true, Bool.true_and, Bool.and_eq_true, decide_eq_true_eq] <;> first | assumption | exact ⟨by assumption, by assumption⟩ | exact ⟨by assumption, by assumption, by assumption⟩ | omega)) rfl (m_48 hr n e81 hn8 hmv hbar (by omega) (by omega) (by omega) (by omega) (by omega) (by omega) (by omega) hG) (fun ψ3 hQ3 => ?_)
    obtain ⟨hG3, v, hv1, hv2, hv3, hq86⟩ := hQ3
    refine JZ_iinc i_49_89 (by rfl) (by rw [l_49]; decide) (by rfl) ?_
    refine JZ_goto (tg := 20) i_49_92 (by decide) ?_
    first
      | exact JZ_fg (hK () _ (PM_skip hI)) (by repeat (first | exact trivial | refine ⟨rfl, ?_⟩))
      | (rcases hq76 with ⟨_, e⟩ | ⟨_, e⟩ | ⟨e, _⟩
         · exact JZ_fg (hK () _ (PM_ref hr' hI hc hcn1 hmc1 hi hm6 h0s hG2 hS6 h32 e)) (by repeat (first | exact trivial | refine ⟨rfl, ?_⟩))
         · exact JZ_fg (hK () _ (PM_late hr' hI hc hcn1 hmc1 hi hm6 h0s hG2 hS6 h32 e)) (by repeat (first | exact trivial | refine ⟨rfl, ?_⟩))
         · exact absurd h79 (by omega))
      | (rcases hq86 with e | ⟨t, g, s, d, ht0, ht1, hg1, hg2, hg3, hsd, hTT, e⟩
         · exact JZ_fg (hK () _ (PM_near hr' hI hc hcn1 hmc1 hi hm6 h0s hG3 hS6 h32 hv3 hbn e0 e)) (by repeat (first | exact trivial | refine ⟨rfl, ?_⟩))
         · exact JZ_fg (hK () _ (PM_go hr' hI hc hcn1 hmc1 hi hm6 h0s hG3 hS6 h32 hv3 hbn hn1 hbx hdis ⟨ht0, ht1⟩ hg1 hg2 hg3 hsd hTT e)) (by repeat (first | exact trivial | refine ⟨rfl, ?_⟩)))
  · intro u φ hI
    obtain ⟨hG, hF, hB, hT, hM, hR⟩ := id hI
    have e21 : φ (r + 11 + 8 * c) 21 = (mc : Int) := by rw [jD_key hF (by decide)]; exact hmc1
    refine JZ_iload_n i_49_20 (by rfl) ?_
    refine JZ_aload_n i_49_21 (by rfl) ?_
    refine JZ_gB (key := 21) i_49_22 f_49_126 (by assumption) (by rfl) rfl hG (fun u22 v22 => ?_)
    refine JZ_icge (tg := 95) i_49_25 (by decide) (by omega) (by omega) (fun h25 => ?_) (fun h25 => ?_)
    · refine JZ_vret i_49_95 r_49 ?_
      exact ⟨_, ψ1, (by omega), hψ1, hI⟩
    exfalso; omega
  · exact PM_zero hG hr' (fun b hb2 => by have h9 := (hb b hb2).1; rw [fk _ 3 (by decide)]; exact h9)
end P31
