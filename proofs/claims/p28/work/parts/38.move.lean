/-! begins, moves told; what is told first; small ones of the law -/
theorem opc_all {φ : jSt} {a : Nat} : ∀ {k : Nat}, (∀ j, j < k → φ (a + j) 44 = 0) → opc φ a k = k
  | 0, _ => rfl
  | k + 1, h => by
    show opc φ a k + _ = _
    rw [opc_all (fun j hj => h j (Nat.lt_succ_of_lt hj)), if_pos (h k (Nat.lt_succ_self k))]
    omega
theorem INV_go {ψ φ : jSt} {n c mc : Nat} (hI : INV ψ n) (hc : c < 4) (hmc : ψ (2 + 11 + 8 * c) 21 = (mc : Int)) (h9 : q35 ψ 2 c mc φ) : INV φ n ∧ opn φ 2 = (mc : Int) := by
  obtain ⟨_, hS, hY, hR, hN, hL, i81, i83, i103, hP⟩ := hI
  obtain ⟨hG, f87, f88, f89, f4, f5⟩ := h9
  have hk : ∀ x k, ¬ (k = 44 ∨ k = 45 ∨ k = 87 ∨ k = 88 ∨ k = 89) → φ x k = ψ x k := fun x k q => f5 x k (by omega) (by omega)
  have hm6 := (hS.2.2.2.2.1 c (by omega)).1
  refine ⟨⟨hG, jS_keys (fun a k q => hk a k (by omega)) (by rw [hk _ 84 (by decide)]; exact hS.2.2.1) (fun b' hb' => ?_) hS, ?_, RS_keys (fun a k k1 k2 => f5 a k (by omega) (by omega)) (hk _ _ (by decide)) (hk _ _ (by decide)) hR, fun c' m' hc' hm' hq => ?_, LD_keys (fun a k q => hk a k (by omega)) hL, by rw [hk _ _ (by decide)]; exact i81, by rw [hk _ _ (by decide)]; exact i83, by rw [hk _ _ (by decide)]; exact i103, fun p hp => by unfold pcR; rw [hk _ 60 (by decide), hk _ 61 (by decide), hk _ 62 (by decide), hk _ 63 (by decide)]; exact hP p hp⟩, ?_⟩
  · have hs := hS.2.2.2.1 b' hb'
    unfold jsB at *
    rw [hk _ 0 (by decide), hk _ 1 (by decide), hk _ 2 (by decide), hk _ 4 (by decide), hk _ 5 (by decide), hk _ 6 (by decide), hk _ 7 (by decide), hk _ 8 (by decide), hk _ 9 (by decide), hk _ 10 (by decide)]
    exact hs
  · obtain ⟨y86, y87, y88, y89, yk, yb, ym, yr, yn, yo⟩ := hY
    refine ⟨by rw [hk _ _ (by decide)]; exact y86, by rw [f87, hk _ _ (by decide)]; omega, Or.inl f88, by rw [f89, hk _ _ (by decide)]; omega, fun k k1 k2 => by rw [hk _ k (by omega), hk _ 86 (by decide)]; exact yk k k1 k2, fun b hb => by rw [hk _ 3 (by decide), hk _ 11 (by decide), hk _ 86 (by decide)]; exact yb b hb, fun c' m hc' hm => ?_, fun c' hc' m hm => ?_, fun q => f88, fun q => f89⟩
    · rw [hk _ _ (by decide)] at hm
      have h1 := ym c' m hc' hm
      rw [hk _ 86 (by decide)]
      by_cases q : 2 + 13 + 8 * c ≤ 2 + 13 + 8 * c' + m ∧ 2 + 13 + 8 * c' + m < 2 + 13 + 8 * c + mc
      · have h2 := f4 (2 + 13 + 8 * c' + m - (2 + 13 + 8 * c)) (by omega)
        rw [show 2 + 13 + 8 * c + (2 + 13 + 8 * c' + m - (2 + 13 + 8 * c)) = 2 + 13 + 8 * c' + m by omega] at h2
        rw [h2.1, h2.2]
        omega
      · rw [f5 _ 44 (by omega) (by omega), f5 _ 45 (by omega) (by omega)]
        exact h1
    · rw [hk _ _ (by decide)] at hm
      have e : c' = c := by omega
      subst e
      rw [(f4 m (by omega)).1]
      omega
  · rw [hk _ 21 (by decide)] at hq
    have hx : ¬ (2 + 13 + 8 * c ≤ 2 + 13 + 8 * c' + m' ∧ 2 + 13 + 8 * c' + m' < 2 + 13 + 8 * c + mc) := by
      by_cases q : c' = c
      · subst q
        omega
      · omega
    rw [f5 _ 44 (fun q => hx q.2) (by omega), f5 _ 45 (fun q => hx q.2) (by omega)]
    exact hN c' m' hc' hm' hq
  · rw [opn_at f87 (by rw [hk _ 21 (by decide)]; exact hmc)]
    exact opc_all fun j hj => (f4 j hj).1
section P38
variable {xs : Nat → Int32} {L0 : Nat}
theorem m_36 {ψ : jSt} {n c : Nat} (hI : INV ψ n) (hc : c < 4) (h87 : ψ 2 87 = -1) : JZ Eq xs L0 36 0 ([some (.ref 1), some (.int (jI (c : Int)))] ++ List.replicate 1 none) [] ψ (oI fun x φ => x = ψ (2 + 11 + 8 * c) 21 ∧ INV φ n ∧ φ 2 86 = ψ 2 86 ∧ φ 2 87 = (c : Int) ∧ φ 2 88 = 0 ∧ φ 2 89 = 0 ∧ opn φ 2 = ψ (2 + 11 + 8 * c) 21 ∧ φ (2 + 11 + 8 * c) 21 = ψ (2 + 11 + 8 * c) 21) := by
  have hT := jTow1
  have hrB := jR_rig (r := 2) (by decide)
  obtain ⟨hG, hS, hY, hR, hN, hL, i81, i83, i103, hP⟩ := id hI
  have hn8 : n ≤ 8 := by have := hS.1; omega
  have hcue := (jR_cue (r := 2) (by decide) (show c < 6 by omega)).1
  have hcl := jSk_lt hcue
  obtain ⟨mc, hmc⟩ := Int.eq_ofNat_of_zero_le (hS.2.2.2.2.1 c (by omega)).1.1
  have hm6 : mc ≤ 6 := by have := (hS.2.2.2.2.1 c (by omega)).1.2; omega
  refine JZ_aload_n i_36_0 (by rfl) ?_
  refine JZ_gR i_36_1 f_36_10 jTow1 (by rfl) ?_
  refine JZ_iload_n i_36_4 (by rfl) ?_
  refine JZ_v1A (j := 0) i_36_5 v_36_98 (by decide +kernel) rfl rfl (Nat.le_of_ble_eq_true rfl) (by assumption) rfl rfl (m_11 (r := 2) (by decide) c rfl (by omega) (by omega) hG) ?_
  refine JZ_astore_n i_36_8 (by rw [l_36]; decide) (by rfl) (by omega) ?_
  refine JZ_aload_n i_36_9 (by rfl) ?_
  refine JZ_gR i_36_10 f_36_10 jTow1 (by rfl) ?_
  refine JZ_gB (key := 87) i_36_13 f_36_112 (by assumption) (by rfl) rfl hG (fun u13 v13 => ?_)
  refine JZ_iconst i_36_16 ?_
  refine JZ_iceq (tg := 30) i_36_17 (by decide) (by omega) (by omega) (fun h17 => ?_) (fun h17 => ?_)
  · refine JZ_aload_n i_36_30 (by rfl) ?_
    refine JZ_gR i_36_31 f_36_10 jTow1 (by rfl) ?_
    refine JZ_iload_n i_36_34 (by rfl) ?_
    refine JZ_v1V (j := 0) i_36_35 v_36_191 (by decide +kernel) rfl rfl (Nat.le_of_ble_eq_true rfl) (by assumption) rfl rfl (m_35 (r := 2) (by decide) c (by omega) mc hmc hm6 rfl (by omega) (by omega) hG) (fun φ hQ35 => ?_)
    have hG := hQ35.1
    refine JZ_aload_n i_36_38 (by rfl) ?_
    refine JZ_gB (key := 21) i_36_39 f_36_117 (by assumption) (by rfl) rfl hG (fun u39 v39 => ?_)
    refine JZ_iret i_36_42 r_36 ?_
    have hg := INV_go hI hc hmc hQ35
    have e21 : φ (2 + 11 + 8 * c) 21 = ψ (2 + 11 + 8 * c) 21 := hQ35.2.2.2.2.2 _ _ (by omega) (by omega)
    exact ⟨e21, hg.1, hQ35.2.2.2.2.2 _ _ (by omega) (by omega), hQ35.2.1, hQ35.2.2.1, hQ35.2.2.2.1, by rw [hg.2, hmc], e21⟩
  exfalso; omega
theorem m_29 {ψ : jSt} {v : Int} (c : Nat) (hc : c < 6) (mc : Nat) (hmc : ψ (2 + 11 + 8 * c) 21 = (mc : Int)) (hm6 : mc ≤ 6) (hv : -60000 ≤ v ∧ v ≤ 60000) (hG : jG ψ) : JZ Eq xs L0 29 0 ([some (.ref (2 + 11 + 8 * c)), some (.int (jI v))] ++ List.replicate 1 none) [] ψ (oI fun x ψ' => ((x = 0 ∨ x = 1) ∧ (x = 0 → ∀ m, m < mc → ¬ ψ (2 + 13 + 8 * c + m) 40 = v)) ∧ ψ' = ψ) := by
  have hcue := (jR_cue (r := 2) (by decide) hc).1
  refine JZ_iconst i_29_0 ?_
  refine JZ_istore_n i_29_1 (by rw [l_29]; decide) (by rfl) ?_
  refine JZ_fg (L' := [some (.ref (2 + 11 + 8 * c)), some (.int (jI v)), some (.int (jI (((0 : Nat) : Int))))]) ?_ (by repeat (first | exact trivial | refine ⟨rfl, ?_⟩))
  refine JZ_forP (σ := Unit) (N := mc) (I := fun i _ => ∀ m, m < i → ¬ ψ (2 + 13 + 8 * c + m) 40 = v) (Lf := fun i _ => [some (.ref (2 + 11 + 8 * c)), some (.int (jI v)), some (.int (jI ((i : Int))))]) ?_ ?_ mc 0 () (by omega) ?_
  · intro i u hi hI hK
    have hmv := jR_move (r := 2) (by decide) hc (show i < 6 by omega)
    refine JZ_iload_n i_29_2 (by rfl) ?_
    refine JZ_aload_n i_29_3 (by rfl) ?_
    refine JZ_gB (key := 21) i_29_4 f_29_22 (by assumption) (by rfl) rfl hG (fun u4 v4 => ?_)
    refine JZ_icge (tg := 31) i_29_7 (by decide) (by omega) (by omega) (fun h7 => ?_) (fun h7 => ?_)
    · exfalso; omega
    refine JZ_aload_n i_29_10 (by rfl) ?_
    refine JZ_gMoves i_29_11 f_29_17 (by decide) (by omega) ?_
    refine JZ_iload_n i_29_14 (by rfl) ?_
    refine JZ_aMove (i) i_29_15 (by decide) (by omega) (by omega) (by omega) ?_
    refine JZ_gB (key := 40) i_29_16 f_29_36 (by assumption) (by rfl) rfl hG (fun u16 v16 => ?_)
    refine JZ_iload_n i_29_19 (by rfl) ?_
    refine JZ_icne (tg := 25) i_29_20 (by decide) (by omega) (by omega) (fun h20 => ?_) (fun h20 => ?_)
    · refine JZ_iinc i_29_25 (by rfl) (by rw [l_29]; decide) (by rfl) ?_
      refine JZ_goto (tg := 2) i_29_28 (by decide) ?_
      refine JZ_fg (hK () (fun m hm => ?_)) (by repeat (first | exact trivial | refine ⟨rfl, ?_⟩))
      rcases Nat.lt_or_eq_of_le (Nat.lt_succ_iff.mp hm) with hm | rfl
      · exact hI m hm
      · exact h20
    refine JZ_iconst i_29_23 ?_
    refine JZ_zret i_29_24 r_29 (by omega) ?_
    exact ⟨⟨by omega, fun q => absurd q (by omega)⟩, rfl⟩
  · intro u hI
    refine JZ_iload_n i_29_2 (by rfl) ?_
    refine JZ_aload_n i_29_3 (by rfl) ?_
    refine JZ_gB (key := 21) i_29_4 f_29_22 (by assumption) (by rfl) rfl hG (fun u4 v4 => ?_)
    refine JZ_icge (tg := 31) i_29_7 (by decide) (by omega) (by omega) (fun h7 => ?_) (fun h7 => ?_)
    · refine JZ_iconst i_29_31 ?_
      refine JZ_zret i_29_32 r_29 (by omega) ?_
      exact ⟨⟨by omega, fun _ => hI⟩, rfl⟩
    exfalso; omega
  · exact fun m hm => absurd hm (Nat.not_lt_zero m)
def q30 (ψ : jSt) (n c b : Nat) (x : Int) (φ : jSt) : Prop := x = ψ (2 + 11 + 8 * c) 21 ∧ 0 ≤ x ∧ x < 6 ∧ INV φ n ∧ φ 2 86 = ψ 2 86 ∧ (∀ m : Nat, x = (m : Int) → φ (2 + 13 + 8 * c + m) 40 = (b : Int) ∧ φ (2 + 13 + 8 * c + m) 44 = -1) ∧ φ (2 + 11 + 8 * c) 21 = x + 1 ∧ φ 2 87 = ψ 2 87 ∧ ¬ ψ 2 87 = (c : Int)
theorem INV_move {ψ φ : jSt} {n c b mc : Nat} {t s d : Int} (hI : INV ψ n) (hc : c < 4) (hb : b < n) (hmc : ψ (2 + 11 + 8 * c) 21 = (mc : Int)) (hm6 : mc < 6) (h87 : ¬ ψ 2 87 = (c : Int)) (hno : ∀ m, m < mc → ¬ ψ (2 + 13 + 8 * c + m) 40 = (b : Int)) (ht : 0 ≤ t ∧ t ≤ 120) (hs : 1 ≤ s ∧ s ≤ 6) (hd : 0 ≤ d ∧ d ≤ 20) (hG : jG φ)
    (e : φ = jU (jU (jU (jU (jU ψ (2 + 13 + 8 * c + mc) 40 (b : Int)) (2 + 13 + 8 * c + mc) 41 t) (2 + 13 + 8 * c + mc) 42 s) (2 + 13 + 8 * c + mc) 43 d) (2 + 11 + 8 * c) 21 ((mc : Int) + 1)) : q30 ψ n c b (mc : Int) φ := by
  obtain ⟨_, hS, hY, hR, hN, hL, i81, i83, i103, hP⟩ := hI
  have f40 : φ (2 + 13 + 8 * c + mc) 40 = (b : Int) := by rw [e]; simp [jU]
  have f40n : ∀ x, ¬ x = (2 + 13 + 8 * c + mc) → φ x 40 = ψ x 40 := fun x hx => by rw [e]; simp [jU, hx]
  have f41 : φ (2 + 13 + 8 * c + mc) 41 = t := by rw [e]; simp [jU]
  have f41n : ∀ x, ¬ x = (2 + 13 + 8 * c + mc) → φ x 41 = ψ x 41 := fun x hx => by rw [e]; simp [jU, hx]
  have f42 : φ (2 + 13 + 8 * c + mc) 42 = s := by rw [e]; simp [jU]
  have f42n : ∀ x, ¬ x = (2 + 13 + 8 * c + mc) → φ x 42 = ψ x 42 := fun x hx => by rw [e]; simp [jU, hx]
  have f43 : φ (2 + 13 + 8 * c + mc) 43 = d := by rw [e]; simp [jU]
  have f43n : ∀ x, ¬ x = (2 + 13 + 8 * c + mc) → φ x 43 = ψ x 43 := fun x hx => by rw [e]; simp [jU, hx]
  have f21 : φ (2 + 11 + 8 * c) 21 = (mc : Int) + 1 := by rw [e]; simp [jU]
  have f21n : ∀ x, ¬ x = (2 + 11 + 8 * c) → φ x 21 = ψ x 21 := fun x hx => by rw [e]; simp [jU, hx]
  have fo : ∀ x k, ¬ k = 40 → ¬ k = 41 → ¬ k = 42 → ¬ k = 43 → ¬ k = 21 → φ x k = ψ x k := fun x k h40 h41 h42 h43 h21 => by rw [e]; simp [jU, h40, h41, h42, h43, h21]
  have hk : ∀ x k, ¬ (k = 40 ∨ k = 41 ∨ k = 42 ∨ k = 43 ∨ k = 21) → φ x k = ψ x k := fun x k q => fo x k (by omega) (by omega) (by omega) (by omega) (by omega)
  have hNc := hN c mc (by omega) hm6 (by omega)
  have eo : opn φ 2 = opn ψ 2 := by
    unfold opn
    rw [hk _ 87 (by decide)]
    by_cases q : ψ 2 87 = -1
    · rw [if_pos q, if_pos q]
    · rw [if_neg q, if_neg q, f21n _ (by have := hY.2.1; omega), opc_eq (fun j _ => hk _ 44 (by decide))]
  obtain ⟨s81, s83, s84, sB, sC, sM, sD⟩ := id hS
  refine ⟨hmc.symm, by omega, by omega, ⟨hG, ⟨by rw [hk _ 81 (by decide)]; exact s81, by rw [hk _ 83 (by decide)]; exact s83, by rw [hk _ 84 (by decide)]; exact s84, fun b' hb' => ?_, fun c' hc' => ?_, fun c' m hc' hm => ?_, fun c' m m' hc' hm hm' hq => ?_⟩, ?_, RS_keys (fun a k k1 k2 => by
      by_cases q : k = 21
      · subst q; exact f21n _ (by omega)
      · by_cases q2 : k = 40
        · subst q2; exact f40n _ (by omega)
        · by_cases q3 : k = 41
          · subst q3; exact f41n _ (by omega)
          · by_cases q4 : k = 42
            · subst q4; exact f42n _ (by omega)
            · by_cases q5 : k = 43
              · subst q5; exact f43n _ (by omega)
              · exact hk a k (by omega)) (hk _ _ (by decide)) (hk _ _ (by decide)) hR, fun c' m' hc' hm' hq => ?_, LD_keys (fun a k q => hk a k (by omega)) hL, by rw [hk _ _ (by decide)]; exact i81, by rw [hk _ _ (by decide)]; exact i83, by rw [hk _ _ (by decide)]; exact i103, fun p hp => by unfold pcR; rw [hk _ 60 (by decide), hk _ 61 (by decide), hk _ 62 (by decide), hk _ 63 (by decide)]; exact hP p hp⟩, hk _ _ (by decide), fun m hm => ?_, f21, hk _ _ (by decide), h87⟩
  · have hs := sB b' hb'
    unfold jsB at *
    rw [hk _ 0 (by decide), hk _ 1 (by decide), hk _ 2 (by decide), hk _ 4 (by decide), hk _ 5 (by decide), hk _ 6 (by decide), hk _ 7 (by decide), hk _ 8 (by decide), hk _ 9 (by decide), hk _ 10 (by decide)]
    exact hs
  · rw [hk _ 22 (by decide)]
    by_cases q : c' = c
    · subst q
      rw [f21]
      exact ⟨by omega, (sC c' hc').2⟩
    · rw [f21n _ (by omega)]
      exact sC c' hc'
  · unfold jsM
    rw [hk _ 81 (by decide)]
    by_cases q : c' = c
    · subst q
      rw [f21] at hm
      by_cases q2 : m = mc
      · subst q2
        rw [f40, f41, f42, f43]
        omega
      · rw [f40n _ (by omega), f41n _ (by omega), f42n _ (by omega), f43n _ (by omega)]
        exact sM c' m hc' (by omega)
    · rw [f21n _ (by omega)] at hm
      have h6 := (sC c' hc').1.2
      rw [f40n _ (by omega), f41n _ (by omega), f42n _ (by omega), f43n _ (by omega)]
      exact sM c' m hc' hm
  · by_cases q : c' = c
    · subst q
      rw [f21] at hm hm'
      by_cases q2 : m = mc
      · by_cases q3 : m' = mc
        · omega
        · exfalso
          rw [q2, f40, f40n _ (by omega)] at hq
          exact hno m' (by omega) hq.symm
      · by_cases q3 : m' = mc
        · exfalso
          rw [q3, f40, f40n _ (by omega)] at hq
          exact hno m (by omega) hq
        · rw [f40n _ (by omega), f40n _ (by omega)] at hq
          exact sD c' m m' hc' (by omega) (by omega) hq
    · rw [f21n _ (by omega)] at hm hm'
      have h6 := (sC c' hc').1.2
      rw [f40n _ (by omega), f40n _ (by omega)] at hq
      exact sD c' m m' hc' hm hm' hq
  · obtain ⟨y86, y87, y88, y89, yk, yb, ym, yr, yn, yo⟩ := hY
    refine ⟨by rw [hk _ 86 (by decide)]; exact y86, by rw [hk _ 87 (by decide), hk _ 83 (by decide)]; exact y87, by rw [hk _ 88 (by decide)]; exact y88, by rw [hk _ 89 (by decide), hk _ 86 (by decide)]; exact y89, fun k k1 k2 => by rw [hk _ k (by omega), hk _ 86 (by decide)]; exact yk k k1 k2, fun b hb => by rw [hk _ 3 (by decide), hk _ 11 (by decide), hk _ 86 (by decide)]; exact yb b hb, fun c' m hc' hm => ?_, fun c' hc' m hm => ?_, fun q => by rw [hk _ 87 (by decide)] at q; rw [hk _ 88 (by decide)]; exact yn q, fun q => by rw [eo] at q; rw [hk _ 89 (by decide)]; exact yo q⟩
    · rw [hk _ 44 (by decide), hk _ 45 (by decide), hk _ 86 (by decide)]
      by_cases q : c' = c ∧ m = mc
      · obtain ⟨rfl, rfl⟩ := q
        rw [hNc.1, hNc.2]
        omega
      · refine ym c' m hc' ?_
        by_cases q2 : c' = c
        · subst q2
          rw [f21] at hm
          omega
        · rw [f21n _ (by omega)] at hm
          exact hm
    · rw [hk _ 87 (by decide)] at hc'
      have hne : ¬ c' = c := fun q => h87 (by rw [hc', q])
      rw [f21n _ (by omega)] at hm
      rw [hk _ 44 (by decide)]
      exact yr c' hc' m hm
  · rw [hk _ 44 (by decide), hk _ 45 (by decide)]
    refine hN c' m' hc' hm' ?_
    by_cases q : c' = c
    · subst q
      rw [f21] at hq
      omega
    · rw [f21n _ (by omega)] at hq
      exact hq
  · have e2 : m = mc := by omega
    subst e2
    exact ⟨f40, by rw [hk _ 44 (by decide)]; exact hNc.1⟩
theorem m_30 {ψ : jSt} {n c b : Nat} {t s d : Int} (hI : INV ψ n) (hc : c < 4) (hb : b < n) (ht : 0 ≤ t ∧ t ≤ 120) (hs : 1 ≤ s ∧ s ≤ 6) (hd : 0 ≤ d ∧ d ≤ 20) : JZ Eq xs L0 30 0 ([some (.ref 1), some (.int (jI (c : Int))), some (.int (jI (b : Int))), some (.int (jI t)), some (.int (jI s)), some (.int (jI d))] ++ List.replicate 3 none) [] ψ (fun o φ => oI (q30 ψ n c b) o φ ∨ oX "java/lang/IllegalStateException" (fun φ => φ = ψ) o φ) := by
  have hT := jTow1
  have hrB := jR_rig (r := 2) (by decide)
  obtain ⟨hG, hS, hY, hR, hN, hL, i81, i83, i103, hP⟩ := id hI
  have hn8 : n ≤ 8 := by have := hS.1; omega
  have hbar := jR_bar (r := 2) (by decide) (show b < 8 by omega)
  have hbl := jSk_lt hbar
  have hsB := hS.2.2.2.1 b (by omega)
  have hcue := (jR_cue (r := 2) (by decide) (show c < 6 by omega)).1
  have hcl := jSk_lt hcue
  obtain ⟨mc, hmc⟩ := Int.eq_ofNat_of_zero_le (hS.2.2.2.2.1 c (by omega)).1.1
  have hm6 : mc ≤ 6 := by have := (hS.2.2.2.2.1 c (by omega)).1.2; omega
  refine JZ_aload_n i_30_0 (by rfl) ?_
  refine JZ_gR i_30_1 f_30_10 jTow1 (by rfl) ?_
  refine JZ_iload_n i_30_4 (by rfl) ?_
  refine JZ_v1A (j := 0) i_30_5 v_30_98 (by decide +kernel) rfl rfl (Nat.le_of_ble_eq_true rfl) (by assumption) rfl rfl (m_11 (r := 2) (by decide) c rfl (by omega) (by omega) hG) ?_
  refine JZ_astore i_30_8 (by rw [l_30]; decide) (by rfl) (by omega) ?_
  refine JZ_aload_n i_30_10 (by rfl) ?_
  refine JZ_gR i_30_11 f_30_10 jTow1 (by rfl) ?_
  refine JZ_iload_n i_30_14 (by rfl) ?_
  refine JZ_v1A (j := 0) i_30_15 v_30_102 (by decide +kernel) rfl rfl (Nat.le_of_ble_eq_true rfl) (by assumption) rfl rfl (m_16 (r := 2) (by decide) b rfl (by omega) (by omega) hG) ?_
  refine JZ_astore i_30_18 (by rw [l_30]; decide) (by rfl) (by omega) ?_
  refine JZ_iload_n i_30_20 (by rfl) ?_
  refine JZ_iflt (tg := 30) i_30_21 (by decide) (by omega) (fun h21 => ?_) (fun h21 => ?_)
  · exfalso; omega
  refine JZ_iload_n i_30_24 (by rfl) ?_
  refine JZ_bipush i_30_25 (by decide) ?_
  refine JZ_icle (tg := 40) i_30_27 (by decide) (by omega) (by omega) (fun h27 => ?_) (fun h27 => ?_)
  · refine JZ_iload i_30_40 (by rfl) ?_
    refine JZ_iconst i_30_42 ?_
    refine JZ_iclt (tg := 53) i_30_43 (by decide) (by omega) (by omega) (fun h43 => ?_) (fun h43 => ?_)
    · exfalso; omega
    refine JZ_iload i_30_46 (by rfl) ?_
    refine JZ_bipush i_30_48 (by decide) ?_
    refine JZ_icle (tg := 63) i_30_50 (by decide) (by omega) (by omega) (fun h50 => ?_) (fun h50 => ?_)
    · refine JZ_iload i_30_63 (by rfl) ?_
      refine JZ_iflt (tg := 75) i_30_65 (by decide) (by omega) (fun h65 => ?_) (fun h65 => ?_)
      · exfalso; omega
      refine JZ_iload i_30_68 (by rfl) ?_
      refine JZ_bipush i_30_70 (by decide) ?_
      refine JZ_icle (tg := 85) i_30_72 (by decide) (by omega) (by omega) (fun h72 => ?_) (fun h72 => ?_)
      · refine JZ_aload_n i_30_85 (by rfl) ?_
        refine JZ_gR i_30_86 f_30_10 jTow1 (by rfl) ?_
        refine JZ_gB (key := 87) i_30_89 f_30_112 (by assumption) (by rfl) rfl hG (fun u89 v89 => ?_)
        refine JZ_iload_n i_30_92 (by rfl) ?_
        refine JZ_icne (tg := 106) i_30_93 (by decide) (by omega) (by omega) (fun h93 => ?_) (fun h93 => ?_)
        · refine JZ_aload i_30_106 (by rfl) ?_
          refine JZ_gB (key := 21) i_30_108 f_30_117 (by assumption) (by rfl) rfl hG (fun u108 v108 => ?_)
          refine JZ_bipush i_30_111 (by decide) ?_
          refine JZ_iclt (tg := 126) i_30_113 (by decide) (by omega) (by omega) (fun h113 => ?_) (fun h113 => ?_)
          · refine JZ_aload i_30_126 (by rfl) ?_
            have hsB0 := hsB.1
            refine JZ_aload i_30_128 (by rfl) ?_
            refine JZ_gB (key := 0) i_30_130 f_30_59 (by assumption) (by rfl) rfl hG (fun u130 v130 => ?_)
            refine JZ_v1P (j := 1) i_30_133 v_30_122 (by decide +kernel) rfl rfl (Nat.le_of_ble_eq_true rfl) (by assumption) rfl rfl (m_29 c (by omega) mc hmc hm6 (by omega) hG) (fun x133 hq133 => ?_)
            rw [hsB0] at hq133
            refine JZ_ifeq (tg := 149) i_30_136 (by decide) (by omega) (fun h136 => ?_) (fun h136 => ?_)
            · have hmv := jR_move (r := 2) (by decide) (show c < 6 by omega) (show mc < 6 by omega)
              have hml := jSk_lt hmv
              refine JZ_aload i_30_149 (by rfl) ?_
              refine JZ_gMoves i_30_151 f_30_128 (by decide) (by omega) ?_
              refine JZ_aload i_30_154 (by rfl) ?_
              refine JZ_gB (key := 21) i_30_156 f_30_117 (by assumption) (by rfl) rfl hG (fun u156 v156 => ?_)
              refine JZ_aMove (mc) i_30_159 (by decide) (by omega) (by omega) (by omega) ?_
              refine JZ_astore i_30_160 (by rw [l_30]; decide) (by rfl) (by omega) ?_
              refine JZ_aload i_30_162 (by rfl) ?_
              refine JZ_aload i_30_164 (by rfl) ?_
              refine JZ_gB (key := 0) i_30_166 f_30_59 (by assumption) (by rfl) rfl hG (fun u166 v166 => ?_)
              rw [hsB0]
              refine JZ_pB (key := 40) i_30_169 f_30_132 (by assumption) (by rfl) rfl (Or.inl t_2_0) (by rfl) hG (by omega) (fun hG => ?_)
              refine JZ_aload i_30_172 (by rfl) ?_
              refine JZ_iload_n i_30_174 (by rfl) ?_
              refine JZ_pB (key := 41) i_30_175 f_30_137 (by assumption) (by rfl) rfl (Or.inl t_2_1) (by rfl) hG (by omega) (fun hG => ?_)
              refine JZ_aload i_30_178 (by rfl) ?_
              refine JZ_iload i_30_180 (by rfl) ?_
              refine JZ_pB (key := 42) i_30_182 f_30_140 (by assumption) (by rfl) rfl (Or.inl t_2_2) (by rfl) hG (by omega) (fun hG => ?_)
              refine JZ_aload i_30_185 (by rfl) ?_
              refine JZ_iload i_30_187 (by rfl) ?_
              refine JZ_pB (key := 43) i_30_189 f_30_143 (by assumption) (by rfl) rfl (Or.inl t_2_3) (by rfl) hG (by omega) (fun hG => ?_)
              obtain ⟨φ, hφ⟩ : ∃ χ, χ = jU (jU (jU (jU ψ (2 + 13 + 8 * c + mc) 40 (b : Int)) (2 + 13 + 8 * c + mc) 41 t) (2 + 13 + 8 * c + mc) 42 s) (2 + 13 + 8 * c + mc) 43 d := ⟨_, rfl⟩
              rw [← hφ] at hG
              rw [← hφ]
              have e21 : φ (2 + 11 + 8 * c) 21 = (mc : Int) := by rw [hφ, jU_nk (by decide), jU_nk (by decide), jU_nk (by decide), jU_nk (by decide)]; exact hmc
              refine JZ_aload i_30_192 (by rfl) ?_
              refine JZ_dup i_30_194 rfl ?_
              refine JZ_gB (key := 21) i_30_195 f_30_117 (by assumption) (by rfl) rfl hG (fun u195 v195 => ?_)
              refine JZ_dup_x1 i_30_198 rfl rfl ?_
              refine JZ_iconst i_30_199 ?_
              refine JZ_iadd i_30_200 ?_
              refine JZ_pB (key := 21) i_30_201 f_30_117 (by assumption) (by rfl) rfl (Or.inl t_1_1) (by rfl) hG (by omega) (fun hG => ?_)
              rw [e21] at hG ⊢
              exact JZ_post (JZ_iret (Q := q30 ψ n c b) i_30_204 r_30 (INV_move hI hc hb hmc (by omega) (by omega) (hq133.2 (by omega)) ht hs hd hG (by rw [hφ]))) (fun o φ h => Or.inl h)
            exact JZ_post (JZ_thr (Q := fun φ => φ = ψ) th_30_139 (by decide +kernel) rfl) (fun o φ h => Or.inr h)
          exact JZ_post (JZ_thr (Q := fun φ => φ = ψ) th_30_116 (by decide +kernel) rfl) (fun o φ h => Or.inr h)
        exact JZ_post (JZ_thr (Q := fun φ => φ = ψ) th_30_96 (by decide +kernel) rfl) (fun o φ h => Or.inr h)
      exfalso; omega
    exfalso; omega
  exfalso; omega
end P38
