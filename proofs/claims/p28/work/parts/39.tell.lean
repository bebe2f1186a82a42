/-! what is told first; small ones of the law -/
/-- what holds while the law tells bars, pieces and cues -/
def SI (ψ : jSt) (n np nc : Nat) : Prop := jG ψ ∧ jS ψ 2 ∧ jY ψ 2 ∧ RS ψ ∧ NL ψ ∧ ψ 2 81 = (n : Int) ∧ ψ 2 83 = (nc : Int) ∧ ψ 1 103 = (np : Int) ∧ (∀ p : Nat, p < 10 → pcR ψ (121 + p) ∧ ψ (121 + p) 63 = -1) ∧ (∀ b : Nat, b < 8 → ψ (2 + 2 + b) 5 = 0 ∧ ψ (2 + 2 + b) 6 = 0 ∧ ψ (2 + 2 + b) 7 = 0 ∧ ψ (2 + 2 + b) 2 ≤ 229) ∧ ψ 2 86 = 0 ∧ ψ 2 87 = -1 ∧ (∀ c : Nat, c < 6 → ψ (2 + 11 + 8 * c) 21 = 0)
theorem SI_INV {ψ : jSt} {n : Nat} (h : SI ψ n 8 4) : INV ψ n := by
  obtain ⟨hG, hS, hY, hR, hN, i81, i83, i103, hP, hB, i86, i87, hC⟩ := h
  have z1 : ∀ (b : Nat) (k : Nat), k ≤ 8 → ldW ψ b k = 0 := fun b k => by
    induction k with
    | zero => intro _; rfl
    | succ k ih =>
      intro hk
      show (if ψ (121 + k) 63 = (b : Int) then _ else _) = _
      rw [if_neg (by have := (hP k (by omega)).2; omega)]
      exact ih (by omega)
  have z2 : ∀ (key b : Nat) (k : Nat), k ≤ 8 → ldM ψ key b k = 0 := fun key b k => by
    induction k with
    | zero => intro _; rfl
    | succ k ih =>
      intro hk
      show (if ψ (121 + k) 63 = (b : Int) then _ else _) = _
      rw [if_neg (by have := (hP k (by omega)).2; omega)]
      exact ih (by omega)
  have hn8 := hS.1
  refine ⟨hG, hS, hY, hR, hN, fun b hb => ?_, i81, i83, i103, fun p hp => ⟨(hP p (by omega)).1, by have := (hP p (by omega)).2; omega, by have := (hP p (by omega)).2; omega⟩⟩
  have h1 := hB b (by omega)
  have h2 := (hS.2.2.2.1 b (by omega)).2.2.1
  rw [z1 b 8 (by omega), z2 61 b 8 (by omega), z2 62 b 8 (by omega)]
  exact ⟨h1.1, h1.2.1, h1.2.2.1, by omega, h1.2.2.2⟩
theorem SI_bar {ψ φ : jSt} {n np nc : Nat} {v l : Int} (hI : SI ψ n np nc) (hn : n < 8) (hv : v = 0 ∨ v = 1) (hl : 10 ≤ l ∧ l ≤ 229) (hG : jG φ) (e : φ = jU (jU (jU ψ (2 + 2 + n) 1 v) (2 + 2 + n) 2 l) 2 81 ((n : Int) + 1)) : SI φ (n + 1) np nc := by
  obtain ⟨_, hS, hY, hR, hN, i81, i83, i103, hP, hB, i86, i87, hC⟩ := hI
  have f1 : φ (2 + 2 + n) 1 = v := by rw [e]; simp [jU]
  have f1n : ∀ x, ¬ x = (2 + 2 + n) → φ x 1 = ψ x 1 := fun x hx => by rw [e]; simp [jU, hx]
  have f2 : φ (2 + 2 + n) 2 = l := by rw [e]; simp [jU]
  have f2n : ∀ x, ¬ x = (2 + 2 + n) → φ x 2 = ψ x 2 := fun x hx => by rw [e]; simp [jU, hx]
  have f81 : φ 2 81 = (n : Int) + 1 := by rw [e]; simp [jU]
  have f81n : ∀ x, ¬ x = 2 → φ x 81 = ψ x 81 := fun x hx => by rw [e]; simp [jU, hx]
  have fo : ∀ x k, ¬ k = 1 → ¬ k = 2 → ¬ k = 81 → φ x k = ψ x k := fun x k h1 h2 h81 => by rw [e]; simp [jU, h1, h2, h81]
  have hk : ∀ x k, ¬ (k = 1 ∨ k = 2 ∨ k = 81) → φ x k = ψ x k := fun x k q => fo x k (by omega) (by omega) (by omega)
  obtain ⟨s81, s83, s84, sB, sC, sM, sD⟩ := hS
  refine ⟨hG, ⟨by rw [f81]; omega, by rw [hk _ _ (by decide)]; exact s83, by rw [hk _ _ (by decide)]; exact s84, fun b hb => ?_, fun c hc => by rw [hk _ _ (by decide), hk _ _ (by decide)]; exact sC c hc, fun c m hc hm => ?_, fun c m m' hc hm hm' hq => ?_⟩, jY_keys (fun a k q => hk a k (by omega)) hY, ⟨fun b hb => by rw [hk _ _ (by decide)]; exact hR.1 b hb, fun b hb hq k k1 k2 => ?_, fun c hc hq => by rw [hk _ _ (by decide)] at hq; rw [hk _ _ (by decide), hk _ _ (by decide)]; exact hR.2.2 c hc hq⟩, NL_keys (fun a k q => hk a k (by omega)) hN, by rw [f81]; omega, by rw [hk _ _ (by decide)]; exact i83, by rw [hk _ _ (by decide)]; exact i103, fun p hp => by unfold pcR; rw [hk _ 60 (by decide), hk _ 61 (by decide), hk _ 62 (by decide), hk _ 63 (by decide)]; exact hP p hp, fun b hb => ?_, by rw [hk _ _ (by decide)]; exact i86, by rw [hk _ _ (by decide)]; exact i87, fun c hc => by rw [hk _ _ (by decide)]; exact hC c hc⟩
  · have hs := sB b hb
    unfold jsB at *
    rw [hk _ 0 (by decide), hk _ 4 (by decide), hk _ 5 (by decide), hk _ 6 (by decide), hk _ 7 (by decide), hk _ 8 (by decide), hk _ 9 (by decide), hk _ 10 (by decide)]
    by_cases q : b = n
    · subst q
      rw [f1, f2]
      exact ⟨hs.1, hv, by omega, hs.2.2.2⟩
    · rw [f1n _ (by omega), f2n _ (by omega)]
      exact hs
  · rw [hk _ _ (by decide), hC c hc] at hm
    omega
  · rw [hk _ _ (by decide), hC c hc] at hm
    omega
  · rw [f81] at hq
    have h9 := hR.2.1 b hb (by omega) k k1 k2
    by_cases q1 : k = 1
    · subst q1; rw [f1n _ (by omega)]; exact h9
    · by_cases q2 : k = 2
      · subst q2; rw [f2n _ (by omega)]; exact h9
      · rw [hk _ _ (by omega)]; exact h9
  · rw [hk _ 5 (by decide), hk _ 6 (by decide), hk _ 7 (by decide)]
    have h9 := hB b hb
    by_cases q : b = n
    · subst q; rw [f2]; omega
    · rw [f2n _ (by omega)]; exact h9
theorem SI_piece {ψ φ : jSt} {n np nc : Nat} {w d t : Int} (hI : SI ψ n np nc) (hnp : np < 10) (hw : 1 ≤ w ∧ w ≤ 90) (hd : 0 ≤ d ∧ d ≤ 60) (ht : 0 ≤ t ∧ t ≤ 2) (hG : jG φ) (e : φ = jU (jU (jU (jU ψ (121 + np) 60 w) (121 + np) 61 d) (121 + np) 62 t) 1 103 ((np : Int) + 1)) : SI φ n (np + 1) nc := by
  obtain ⟨_, hS, hY, hR, hN, i81, i83, i103, hP, hB, i86, i87, hC⟩ := hI
  have f60 : φ (121 + np) 60 = w := by rw [e]; simp [jU]
  have f60n : ∀ x, ¬ x = (121 + np) → φ x 60 = ψ x 60 := fun x hx => by rw [e]; simp [jU, hx]
  have f61 : φ (121 + np) 61 = d := by rw [e]; simp [jU]
  have f61n : ∀ x, ¬ x = (121 + np) → φ x 61 = ψ x 61 := fun x hx => by rw [e]; simp [jU, hx]
  have f62 : φ (121 + np) 62 = t := by rw [e]; simp [jU]
  have f62n : ∀ x, ¬ x = (121 + np) → φ x 62 = ψ x 62 := fun x hx => by rw [e]; simp [jU, hx]
  have f103 : φ 1 103 = (np : Int) + 1 := by rw [e]; simp [jU]
  have f103n : ∀ x, ¬ x = 1 → φ x 103 = ψ x 103 := fun x hx => by rw [e]; simp [jU, hx]
  have fo : ∀ x k, ¬ k = 60 → ¬ k = 61 → ¬ k = 62 → ¬ k = 103 → φ x k = ψ x k := fun x k h60 h61 h62 h103 => by rw [e]; simp [jU, h60, h61, h62, h103]
  have hk : ∀ x k, ¬ (k = 60 ∨ k = 61 ∨ k = 62 ∨ k = 103) → φ x k = ψ x k := fun x k q => fo x k (by omega) (by omega) (by omega) (by omega)
  refine ⟨hG, jS_keys (fun a k q => hk a k (by omega)) (by rw [hk _ 84 (by decide)]; exact hS.2.2.1) (fun b' hb' => ?_) hS, jY_keys (fun a k q => hk a k (by omega)) hY, RS_keys (fun a k k1 k2 => ?_) (hk _ _ (by decide)) (hk _ _ (by decide)) hR, NL_keys (fun a k q => hk a k (by omega)) hN, by rw [hk _ _ (by decide)]; exact i81, by rw [hk _ _ (by decide)]; exact i83, by rw [f103]; omega, fun p hp => ?_, fun b hb => by rw [hk _ 5 (by decide), hk _ 6 (by decide), hk _ 7 (by decide), hk _ 2 (by decide)]; exact hB b hb, by rw [hk _ _ (by decide)]; exact i86, by rw [hk _ _ (by decide)]; exact i87, fun c hc => by rw [hk _ _ (by decide)]; exact hC c hc⟩
  · have hs := hS.2.2.2.1 b' hb'
    unfold jsB at *
    rw [hk _ 0 (by decide), hk _ 1 (by decide), hk _ 2 (by decide), hk _ 4 (by decide), hk _ 5 (by decide), hk _ 6 (by decide), hk _ 7 (by decide), hk _ 8 (by decide), hk _ 9 (by decide), hk _ 10 (by decide)]
    exact hs
  · by_cases q1 : k = 60
    · subst q1; exact f60n _ (by omega)
    · by_cases q2 : k = 61
      · subst q2; exact f61n _ (by omega)
      · by_cases q3 : k = 62
        · subst q3; exact f62n _ (by omega)
        · by_cases q4 : k = 103
          · subst q4; exact f103n _ (by omega)
          · exact hk _ _ (by omega)
  · have h9 := hP p hp
    unfold pcR at *
    rw [hk _ 63 (by decide)]
    by_cases q : p = np
    · subst q
      rw [f60, f61, f62]
      exact ⟨by omega, h9.2⟩
    · rw [f60n _ (by omega), f61n _ (by omega), f62n _ (by omega)]
      exact h9
theorem SI_cue {ψ φ : jSt} {n np nc : Nat} {f : Int} (hI : SI ψ n np nc) (hnc : nc < 6) (hf : -1 ≤ f ∧ f ≤ 5) (hG : jG φ) (e : φ = jU (jU ψ (2 + 11 + 8 * nc) 22 f) 2 83 ((nc : Int) + 1)) : SI φ n np (nc + 1) := by
  obtain ⟨_, hS, hY, hR, hN, i81, i83, i103, hP, hB, i86, i87, hC⟩ := hI
  have f22 : φ (2 + 11 + 8 * nc) 22 = f := by rw [e]; simp [jU]
  have f22n : ∀ x, ¬ x = (2 + 11 + 8 * nc) → φ x 22 = ψ x 22 := fun x hx => by rw [e]; simp [jU, hx]
  have f83 : φ 2 83 = (nc : Int) + 1 := by rw [e]; simp [jU]
  have f83n : ∀ x, ¬ x = 2 → φ x 83 = ψ x 83 := fun x hx => by rw [e]; simp [jU, hx]
  have fo : ∀ x k, ¬ k = 22 → ¬ k = 83 → φ x k = ψ x k := fun x k h22 h83 => by rw [e]; simp [jU, h22, h83]
  have hk : ∀ x k, ¬ (k = 22 ∨ k = 83) → φ x k = ψ x k := fun x k q => fo x k (by omega) (by omega)
  obtain ⟨s81, s83, s84, sB, sC, sM, sD⟩ := hS
  have eo : opn φ 2 = opn ψ 2 := opn_keys fun a k q => hk a k (by omega)
  refine ⟨hG, ⟨by rw [hk _ _ (by decide)]; exact s81, by rw [f83]; omega, by rw [hk _ _ (by decide)]; exact s84, fun b hb => ?_, fun c hc => ?_, fun c m hc hm => ?_, fun c m m' hc hm hm' hq => ?_⟩, ?_, ⟨fun b hb => by rw [hk _ _ (by decide)]; exact hR.1 b hb, fun b hb hq k k1 k2 => by rw [hk _ _ (by decide)] at hq; rw [hk _ _ (by omega)]; exact hR.2.1 b hb hq k k1 k2, fun c hc hq => ?_⟩, NL_keys (fun a k q => hk a k (by omega)) hN, by rw [hk _ _ (by decide)]; exact i81, by rw [f83]; omega, by rw [hk _ _ (by decide)]; exact i103, fun p hp => by unfold pcR; rw [hk _ 60 (by decide), hk _ 61 (by decide), hk _ 62 (by decide), hk _ 63 (by decide)]; exact hP p hp, fun b hb => by rw [hk _ 5 (by decide), hk _ 6 (by decide), hk _ 7 (by decide), hk _ 2 (by decide)]; exact hB b hb, by rw [hk _ _ (by decide)]; exact i86, by rw [hk _ _ (by decide)]; exact i87, fun c hc => by rw [hk _ _ (by decide)]; exact hC c hc⟩
  · have hs := sB b hb
    unfold jsB at *
    rw [hk _ 0 (by decide), hk _ 1 (by decide), hk _ 2 (by decide), hk _ 4 (by decide), hk _ 5 (by decide), hk _ 6 (by decide), hk _ 7 (by decide), hk _ 8 (by decide), hk _ 9 (by decide), hk _ 10 (by decide)]
    exact hs
  · rw [hk _ 21 (by decide)]
    by_cases q : c = nc
    · subst q; rw [f22]; exact ⟨(sC c hc).1, hf⟩
    · rw [f22n _ (by omega)]; exact sC c hc
  · rw [hk _ _ (by decide), hC c hc] at hm
    omega
  · rw [hk _ _ (by decide), hC c hc] at hm
    omega
  · obtain ⟨y86, y87, y88, y89, yk, yb, ym, yr, yn, yo⟩ := hY
    refine ⟨by rw [hk _ 86 (by decide)]; exact y86, by rw [hk _ 87 (by decide), f83]; omega, by rw [hk _ 88 (by decide)]; exact y88, by rw [hk _ 89 (by decide), hk _ 86 (by decide)]; exact y89, fun k k1 k2 => by rw [hk _ k (by omega), hk _ 86 (by decide)]; exact yk k k1 k2, fun b hb => by rw [hk _ 3 (by decide), hk _ 11 (by decide), hk _ 86 (by decide)]; exact yb b hb, fun c m hc hm => by rw [hk _ _ (by decide), hC c hc] at hm; omega, fun c hc m hm => by rw [hk _ _ (by decide)] at hc; omega, fun q => by rw [hk _ 87 (by decide)] at q; rw [hk _ 88 (by decide)]; exact yn q, fun q => by rw [eo] at q; rw [hk _ 89 (by decide)]; exact yo q⟩
  · rw [f83] at hq
    rw [hk _ 21 (by decide), f22n _ (by omega)]
    exact hR.2.2 c hc (by omega)
section P39
variable {xs : Nat → Int32} {L0 : Nat}
theorem m_8 {ψ : jSt} {n np nc : Nat} {v l : Int} (hI : SI ψ n np nc) (hn : n < 8) (hv : v = 0 ∨ v = 1) (hl : 10 ≤ l ∧ l ≤ 229) : JZ Eq xs L0 8 0 ([some (.ref 1), some (.int (jI v)), some (.int (jI l))] ++ List.replicate 1 none) [] ψ (oI fun x φ => x = (n : Int) ∧ SI φ (n + 1) np nc) := by
  have hT := jTow1
  have hrB := jR_rig (r := 2) (by decide)
  obtain ⟨hG, hS, hY, hR, hN, i81, i83, i103, hP, hB, i86, i87, hC⟩ := id hI
  have hbar := jR_bar (r := 2) (by decide) hn
  have hbl := jSk_lt hbar
  have hsB0 := (hS.2.2.2.1 n hn).1
  refine JZ_iload_n i_8_0 (by rfl) ?_
  refine JZ_bipush i_8_1 (by decide) ?_
  refine JZ_iclt (tg := 13) i_8_3 (by decide) (by omega) (by omega) (fun h3 => ?_) (fun h3 => ?_)
  · exfalso; omega
  refine JZ_iload_n i_8_6 (by rfl) ?_
  refine JZ_sipush i_8_7 (by decide) ?_
  refine JZ_icle (tg := 23) i_8_10 (by decide) (by omega) (by omega) (fun h10 => ?_) (fun h10 => ?_)
  · refine JZ_aload_n i_8_23 (by rfl) ?_
    refine JZ_gR i_8_24 f_8_10 jTow1 (by rfl) ?_
    refine JZ_gB (key := 81) i_8_27 f_8_37 (by assumption) (by rfl) rfl hG (fun u27 v27 => ?_)
    refine JZ_bipush i_8_30 (by decide) ?_
    refine JZ_iclt (tg := 45) i_8_32 (by decide) (by omega) (by omega) (fun h32 => ?_) (fun h32 => ?_)
    · refine JZ_aload_n i_8_45 (by rfl) ?_
      refine JZ_gR i_8_46 f_8_10 jTow1 (by rfl) ?_
      refine JZ_gR i_8_49 f_8_46 (by assumption) (by rfl) ?_
      refine JZ_aload_n i_8_52 (by rfl) ?_
      refine JZ_gR i_8_53 f_8_10 jTow1 (by rfl) ?_
      refine JZ_gB (key := 81) i_8_56 f_8_37 (by assumption) (by rfl) rfl hG (fun u56 v56 => ?_)
      refine JZ_aBar (n) i_8_59 (by decide) (by omega) (by omega) ?_
      refine JZ_astore_n i_8_60 (by rw [l_8]; decide) (by rfl) (by first | omega | (dsimp only; omega)) ?_
      refine JZ_aload_n i_8_61 (by rfl) ?_
      refine JZ_iload_n i_8_62 (by rfl) ?_
      refine JZ_pB (key := 1) i_8_63 f_8_50 (by assumption) (by rfl) rfl (Or.inr ⟨t_0_1, by omega⟩) (by rfl) hG (by omega) (fun hG => ?_)
      refine JZ_aload_n i_8_66 (by rfl) ?_
      refine JZ_iload_n i_8_67 (by rfl) ?_
      refine JZ_pB (key := 2) i_8_68 f_8_56 (by assumption) (by rfl) rfl (Or.inl t_0_2) (by rfl) hG (by omega) (fun hG => ?_)
      have e81 : jU (jU ψ (2 + 2 + n) 1 v) (2 + 2 + n) 2 l 2 81 = ψ 2 81 := by rw [jU_nk (by decide), jU_nk (by decide)]
      refine JZ_aload_n i_8_71 (by rfl) ?_
      refine JZ_gR i_8_72 f_8_10 jTow1 (by rfl) ?_
      refine JZ_dup i_8_75 rfl ?_
      refine JZ_gB (key := 81) i_8_76 f_8_37 (by assumption) (by rfl) rfl hG (fun u76 v76 => ?_)
      refine JZ_iconst i_8_79 ?_
      refine JZ_iadd i_8_80 ?_
      refine JZ_pB (key := 81) i_8_81 f_8_37 (by assumption) (by rfl) rfl (Or.inl t_4_1) (by rfl) hG (by omega) (fun hG => ?_)
      refine JZ_aload_n i_8_84 (by rfl) ?_
      refine JZ_gB (key := 0) i_8_85 f_8_59 (by assumption) (by rfl) rfl hG (fun u85 v85 => ?_)
      refine JZ_iret i_8_88 r_8 ?_
      exact ⟨by rw [jU_nk (by decide), jU_nk (by decide), jU_nk (by decide)]; exact hsB0, SI_bar hI hn hv hl hG (by rw [e81, i81])⟩
    exfalso; omega
  exfalso; omega
theorem m_9 {ψ : jSt} {n np nc : Nat} {w d t : Int} (hI : SI ψ n np nc) (hnp : np < 10) (hw : 1 ≤ w ∧ w ≤ 90) (hd : 0 ≤ d ∧ d ≤ 60) (ht : 0 ≤ t ∧ t ≤ 2) : JZ Eq xs L0 9 0 ([some (.ref 1), some (.int (jI w)), some (.int (jI d)), some (.int (jI t))] ++ List.replicate 1 none) [] ψ (oI fun x φ => x = (np : Int) ∧ SI φ n (np + 1) nc) := by
  have hT := jTow1
  have hrB := jR_rig (r := 2) (by decide)
  obtain ⟨hG, hS, hY, hR, hN, i81, i83, i103, hP, hB, i86, i87, hC⟩ := id hI
  have hpi := jR_piece hnp
  have hpl := jSk_lt hpi
  refine JZ_iload_n i_9_0 (by rfl) ?_
  refine JZ_iconst i_9_1 ?_
  refine JZ_iclt (tg := 11) i_9_2 (by decide) (by omega) (by omega) (fun h2 => ?_) (fun h2 => ?_)
  · exfalso; omega
  refine JZ_iload_n i_9_5 (by rfl) ?_
  refine JZ_bipush i_9_6 (by decide) ?_
  refine JZ_icle (tg := 21) i_9_8 (by decide) (by omega) (by omega) (fun h8 => ?_) (fun h8 => ?_)
  · refine JZ_iload_n i_9_21 (by rfl) ?_
    refine JZ_iflt (tg := 31) i_9_22 (by decide) (by omega) (fun h22 => ?_) (fun h22 => ?_)
    · exfalso; omega
    refine JZ_iload_n i_9_25 (by rfl) ?_
    refine JZ_bipush i_9_26 (by decide) ?_
    refine JZ_icle (tg := 41) i_9_28 (by decide) (by omega) (by omega) (fun h28 => ?_) (fun h28 => ?_)
    · refine JZ_iload_n i_9_41 (by rfl) ?_
      refine JZ_iflt (tg := 50) i_9_42 (by decide) (by omega) (fun h42 => ?_) (fun h42 => ?_)
      · exfalso; omega
      refine JZ_iload_n i_9_45 (by rfl) ?_
      refine JZ_iconst i_9_46 ?_
      refine JZ_icle (tg := 60) i_9_47 (by decide) (by omega) (by omega) (fun h47 => ?_) (fun h47 => ?_)
      · refine JZ_aload_n i_9_60 (by rfl) ?_
        refine JZ_gB (key := 103) i_9_61 f_9_68 (by assumption) (by rfl) rfl hG (fun u61 v61 => ?_)
        refine JZ_bipush i_9_64 (by decide) ?_
        refine JZ_iclt (tg := 79) i_9_66 (by decide) (by omega) (by omega) (fun h66 => ?_) (fun h66 => ?_)
        · refine JZ_aload_n i_9_79 (by rfl) ?_
          refine JZ_gR i_9_80 f_9_21 jTow1 (by rfl) ?_
          refine JZ_aload_n i_9_83 (by rfl) ?_
          refine JZ_gB (key := 103) i_9_84 f_9_68 (by assumption) (by rfl) rfl hG (fun u84 v84 => ?_)
          refine JZ_aPiece (np) i_9_87 (by omega) (by omega) ?_
          refine JZ_astore i_9_88 (by rw [l_9]; decide) (by rfl) (by first | omega | (dsimp only; omega)) ?_
          refine JZ_aload i_9_90 (by rfl) ?_
          refine JZ_iload_n i_9_92 (by rfl) ?_
          refine JZ_pB (key := 60) i_9_93 f_9_73 (by assumption) (by rfl) rfl (Or.inl t_3_0) (by rfl) hG (by omega) (fun hG => ?_)
          refine JZ_aload i_9_96 (by rfl) ?_
          refine JZ_iload_n i_9_98 (by rfl) ?_
          refine JZ_pB (key := 61) i_9_99 f_9_76 (by assumption) (by rfl) rfl (Or.inl t_3_1) (by rfl) hG (by omega) (fun hG => ?_)
          refine JZ_aload i_9_102 (by rfl) ?_
          refine JZ_iload_n i_9_104 (by rfl) ?_
          refine JZ_pB (key := 62) i_9_105 f_9_79 (by assumption) (by rfl) rfl (Or.inl t_3_2) (by rfl) hG (by omega) (fun hG => ?_)
          have e103 : jU (jU (jU ψ (121 + np) 60 w) (121 + np) 61 d) (121 + np) 62 t 1 103 = ψ 1 103 := by rw [jU_nk (by decide), jU_nk (by decide), jU_nk (by decide)]
          refine JZ_aload_n i_9_108 (by rfl) ?_
          refine JZ_dup i_9_109 rfl ?_
          refine JZ_gB (key := 103) i_9_110 f_9_68 (by assumption) (by rfl) rfl hG (fun u110 v110 => ?_)
          refine JZ_dup_x1 i_9_113 rfl rfl ?_
          refine JZ_iconst i_9_114 ?_
          refine JZ_iadd i_9_115 ?_
          refine JZ_pB (key := 103) i_9_116 f_9_68 (by assumption) (by rfl) rfl (Or.inl t_5_3) (by rfl) hG (by omega) (fun hG => ?_)
          refine JZ_iret i_9_119 r_9 ?_
          exact ⟨by rw [e103]; exact i103, SI_piece hI hnp hw hd ht hG (by rw [e103, i103])⟩
        exfalso; omega
      exfalso; omega
    exfalso; omega
  exfalso; omega
theorem m_10 {ψ : jSt} {n np nc : Nat} {f : Int} (hI : SI ψ n np nc) (hnc : nc < 6) (hf : -1 ≤ f ∧ f ≤ 5) : JZ Eq xs L0 10 0 ([some (.ref 1), some (.int (jI f))] ++ List.replicate 0 none) [] ψ (oI fun x φ => x = (nc : Int) ∧ SI φ n np (nc + 1)) := by
  have hT := jTow1
  have hrB := jR_rig (r := 2) (by decide)
  obtain ⟨hG, hS, hY, hR, hN, i81, i83, i103, hP, hB, i86, i87, hC⟩ := id hI
  have hcue := (jR_cue (r := 2) (by decide) hnc).1
  have hcl := jSk_lt hcue
  refine JZ_iload_n i_10_0 (by rfl) ?_
  refine JZ_iconst i_10_1 ?_
  refine JZ_iclt (tg := 11) i_10_2 (by decide) (by omega) (by omega) (fun h2 => ?_) (fun h2 => ?_)
  · exfalso; omega
  refine JZ_iload_n i_10_5 (by rfl) ?_
  refine JZ_bipush i_10_6 (by decide) ?_
  refine JZ_iclt (tg := 21) i_10_8 (by decide) (by omega) (by omega) (fun h8 => ?_) (fun h8 => ?_)
  · refine JZ_aload_n i_10_21 (by rfl) ?_
    refine JZ_gR i_10_22 f_10_10 jTow1 (by rfl) ?_
    refine JZ_gB (key := 83) i_10_25 f_10_84 (by assumption) (by rfl) rfl hG (fun u25 v25 => ?_)
    refine JZ_bipush i_10_28 (by decide) ?_
    refine JZ_iclt (tg := 43) i_10_30 (by decide) (by omega) (by omega) (fun h30 => ?_) (fun h30 => ?_)
    · refine JZ_aload_n i_10_43 (by rfl) ?_
      refine JZ_gR i_10_44 f_10_10 jTow1 (by rfl) ?_
      refine JZ_gR i_10_47 f_10_89 (by assumption) (by rfl) ?_
      refine JZ_aload_n i_10_50 (by rfl) ?_
      refine JZ_gR i_10_51 f_10_10 jTow1 (by rfl) ?_
      refine JZ_gB (key := 83) i_10_54 f_10_84 (by assumption) (by rfl) rfl hG (fun u54 v54 => ?_)
      refine JZ_aCue (nc) i_10_57 (by decide) (by omega) (by omega) ?_
      refine JZ_iload_n i_10_58 (by rfl) ?_
      refine JZ_pB (key := 22) i_10_59 f_10_93 (by assumption) (by rfl) rfl (Or.inl t_1_2) (by rfl) hG (by omega) (fun hG => ?_)
      have e83 : jU ψ (2 + 11 + 8 * nc) 22 f 2 83 = ψ 2 83 := jU_nk (by decide)
      refine JZ_aload_n i_10_62 (by rfl) ?_
      refine JZ_gR i_10_63 f_10_10 jTow1 (by rfl) ?_
      refine JZ_dup i_10_66 rfl ?_
      refine JZ_gB (key := 83) i_10_67 f_10_84 (by assumption) (by rfl) rfl hG (fun u67 v67 => ?_)
      refine JZ_dup_x1 i_10_70 rfl rfl ?_
      refine JZ_iconst i_10_71 ?_
      refine JZ_iadd i_10_72 ?_
      refine JZ_pB (key := 83) i_10_73 f_10_84 (by assumption) (by rfl) rfl (Or.inl t_4_3) (by rfl) hG (by omega) (fun hG => ?_)
      refine JZ_iret i_10_76 r_10 ?_
      exact ⟨by rw [e83]; exact i83, SI_cue hI hnc hf hG (by rw [e83, i83])⟩
    exfalso; omega
  exfalso; omega
theorem JZ_iretw {y pc n : Nat} {L : List (Option Value)} {ψ : jSt} {Q : Int → jSt → Prop} {w : Int32} (hI : gI y pc = some (.ireturn, n)) (hR : gR y = some .int) (hP : Q w.toInt ψ) : JZ Eq xs L0 y pc L [.int w] ψ (oI Q) := by
  have h := JZ_iret (xs := xs) (L0 := L0) (L := L) (v := w.toInt) hI hR hP
  have e : jI w.toInt = w := Int32.ofInt_toInt w
  rw [e] at h
  exact h
def bel (w : Int32) (k : Int) : Int := (w &&& 2147483647).toInt % k
theorem jI_mask (w : Int32) : ∃ z : Int, 0 ≤ z ∧ z ≤ 2147483647 ∧ w &&& 2147483647 = jI z ∧ z = (w &&& 2147483647).toInt := by
  have h : (w &&& 2147483647).toBitVec.toNat ≤ 2147483647 := by
    rw [Int32.toBitVec_and, BitVec.toNat_and]
    exact Nat.and_le_right
  have e : (w &&& 2147483647).toInt = ((w &&& 2147483647).toBitVec.toNat : Int) := BitVec.toInt_eq_toNat_of_lt (by omega)
  refine ⟨(w &&& 2147483647).toInt, by omega, by omega, (Int32.ofInt_toInt _).symm, rfl⟩
theorem m_6 {ψ : jSt} {k : Int} (hL : L0 ≤ 260) (hk : 0 ≤ k ∧ k ≤ 1000) : JZ Eq xs L0 6 0 ([some (.ref 0), some (.int (jI k))] ++ List.replicate 0 none) [] ψ (oI fun x ψ' => True ∧ ψ' = ψ) := by
  refine JZ_iload_n i_6_0 (by rfl) ?_
  refine JZ_aload_n i_6_1 (by rfl) ?_
  refine JZ_slen i_6_2 ?_
  refine JZ_icge (tg := 12) i_6_3 (by decide) (by omega) (by omega) (fun h3 => ?_) (fun h3 => ?_)
  · refine JZ_ldc i_6_12 c_6_8 ?_
    refine JZ_iload_n i_6_14 (by rfl) ?_
    refine JZ_iconst i_6_15 ?_
    refine JZ_iadd i_6_16 ?_
    refine JZ_imul32 i_6_17 ?_
    exact JZ_iretw i_6_18 r_6 ⟨trivial, rfl⟩
  refine JZ_aload_n i_6_6 (by rfl) ?_
  refine JZ_iload_n i_6_7 (by rfl) ?_
  refine JZ_sld i_6_8 (by omega) (by omega) (by omega) ?_
  refine JZ_goto (tg := 18) i_6_9 (by decide) ?_
  exact JZ_iretw i_6_18 r_6 ⟨trivial, rfl⟩
theorem m_7 {ψ : jSt} {w : Int32} {k : Int} (hk : 1 ≤ k ∧ k ≤ 1000) : JZ Eq xs L0 7 0 ([some (.int w), some (.int (jI k))] ++ List.replicate 0 none) [] ψ (oI fun x ψ' => (x = bel w k ∧ 0 ≤ x ∧ x < k) ∧ ψ' = ψ) := by
  refine JZ_iload_n i_7_0 (by rfl) ?_
  refine JZ_ldc i_7_1 c_7_7 ?_
  refine JZ_iand i_7_3 ?_
  obtain ⟨z, hz0, hz1, hz, hz9⟩ := jI_mask w
  rw [hz]
  refine JZ_iload_n i_7_4 (by rfl) ?_
  refine JZ_iremI i_7_5 (by omega) (by omega) (by omega) (by omega) ?_
  refine JZ_iret i_7_6 r_7 ?_
  exact ⟨⟨by rw [hz9]; rfl, Int.emod_nonneg _ (by omega), Int.emod_lt_of_pos _ (by omega)⟩, rfl⟩
def ush (x : Int32) (k : Int) : Int32 := (x.toUInt32 >>> ((jI k).toUInt32 &&& Int32.toUInt32 31)).toInt32
def bc1 (x : Int32) : Int32 := x - (ush x 1 &&& 1431655765)
def bc2 (x : Int32) : Int32 := (x &&& 858993459) + (ush x 2 &&& 858993459)
def bc3 (x : Int32) : Int32 := (x + ush x 4) &&& 252645135
def bc4 (x : Int32) : Int32 := x + ush x 8
def bc5 (x : Int32) : Int32 := x + ush x 16
def bcF (x : Int32) : Int32 := bc5 (bc4 (bc3 (bc2 (bc1 x)))) &&& jI 63
def bcx (m : Nat) : Int := (bcF (jI (m : Int))).toInt
theorem bcx_0 : bcx 0 = 0 := by decide +kernel
theorem bcx_T : (List.range 8).all (fun k => (List.range (2 ^ k)).all fun m => decide (bcx (m + 2 ^ k) = bcx m + 1)) = true := by decide +kernel
theorem bcx_nbk (ψ : jSt) (r : Nat) : ∀ k, k ≤ 8 → bcx (brk ψ r k) = nbk ψ r k
  | 0, _ => bcx_0
  | k + 1, h => by
    have ih := bcx_nbk ψ r k (by omega)
    show bcx (if ψ (r + 2 + k) 10 = 0 then brk ψ r k else brk ψ r k + 2 ^ k) = nbk ψ r k + (if ψ (r + 2 + k) 10 = 0 then 0 else 1)
    by_cases q : ψ (r + 2 + k) 10 = 0
    · rw [if_pos q, if_pos q, ih]; omega
    · rw [if_neg q, if_neg q, of_decide_eq_true (List.all_eq_true.mp (List.all_eq_true.mp bcx_T k (List.mem_range.mpr (by omega))) _ (List.mem_range.mpr (brk_lt ψ r k))), ih]
theorem isin_T : (List.range 8).all (fun i => decide ((jI 255 >>> (jI (i : Int) &&& 31)) &&& jI 1 = jI 1)) = true := by decide +kernel
theorem m_55 {ψ : jSt} (m : Nat) : JZ Eq xs L0 55 0 ([some (.int (jI (m : Int)))] ++ List.replicate 0 none) [] ψ (oI fun x ψ' => x = bcx m ∧ ψ' = ψ) := by
  refine JZ_iload_n i_55_0 (by rfl) ?_
  refine JZ_iload_n i_55_1 (by rfl) ?_
  refine JZ_iconst i_55_2 ?_
  refine JZ_iushr i_55_3 ?_
  refine JZ_ldcw i_55_4 c_55_265 ?_
  refine JZ_iand i_55_7 ?_
  refine JZ_isub32 i_55_8 ?_
  refine JZ_istore_n i_55_9 (by rw [l_55]; decide) (by rfl) ?_
  refine JZ_iload_n i_55_10 (by rfl) ?_
  refine JZ_ldcw i_55_11 c_55_266 ?_
  refine JZ_iand i_55_14 ?_
  refine JZ_iload_n i_55_15 (by rfl) ?_
  refine JZ_iconst i_55_16 ?_
  refine JZ_iushr i_55_17 ?_
  refine JZ_ldcw i_55_18 c_55_266 ?_
  refine JZ_iand i_55_21 ?_
  refine JZ_iadd32 i_55_22 ?_
  refine JZ_istore_n i_55_23 (by rw [l_55]; decide) (by rfl) ?_
  refine JZ_iload_n i_55_24 (by rfl) ?_
  refine JZ_iload_n i_55_25 (by rfl) ?_
  refine JZ_iconst i_55_26 ?_
  refine JZ_iushr i_55_27 ?_
  refine JZ_iadd32 i_55_28 ?_
  refine JZ_ldcw i_55_29 c_55_267 ?_
  refine JZ_iand i_55_32 ?_
  refine JZ_istore_n i_55_33 (by rw [l_55]; decide) (by rfl) ?_
  refine JZ_iload_n i_55_34 (by rfl) ?_
  refine JZ_iload_n i_55_35 (by rfl) ?_
  refine JZ_bipush i_55_36 (by decide) ?_
  refine JZ_iushr i_55_38 ?_
  refine JZ_iadd32 i_55_39 ?_
  refine JZ_istore_n i_55_40 (by rw [l_55]; decide) (by rfl) ?_
  refine JZ_iload_n i_55_41 (by rfl) ?_
  refine JZ_iload_n i_55_42 (by rfl) ?_
  refine JZ_bipush i_55_43 (by decide) ?_
  refine JZ_iushr i_55_45 ?_
  refine JZ_iadd32 i_55_46 ?_
  refine JZ_istore_n i_55_47 (by rw [l_55]; decide) (by rfl) ?_
  refine JZ_iload_n i_55_48 (by rfl) ?_
  refine JZ_bipush i_55_49 (by decide) ?_
  refine JZ_iand i_55_51 ?_
  exact JZ_iretw i_55_52 r_55 ⟨rfl, rfl⟩
theorem m_69 {ψ : jSt} (i : Nat) (hi : i < 8) : JZ Eq xs L0 69 0 ([some (.int (jI 255)), some (.int (jI (i : Int)))] ++ List.replicate 0 none) [] ψ (oI fun x ψ' => x = 1 ∧ ψ' = ψ) := by
  refine JZ_iload_n i_69_0 (by rfl) ?_
  refine JZ_iload_n i_69_1 (by rfl) ?_
  refine JZ_ishr i_69_2 ?_
  refine JZ_iconst i_69_3 ?_
  refine JZ_iand i_69_4 ?_
  rw [of_decide_eq_true (List.all_eq_true.mp isin_T i (List.mem_range.mpr hi))]
  refine JZ_iconst i_69_5 ?_
  refine JZ_icne (tg := 13) i_69_6 (by decide) (by omega) (by omega) (fun h6 => ?_) (fun h6 => ?_)
  · exfalso; omega
  refine JZ_iconst i_69_9 ?_
  refine JZ_goto (tg := 14) i_69_10 (by decide) ?_
  refine JZ_zret i_69_14 r_69 (by omega) ?_
  exact ⟨rfl, rfl⟩
end P39
