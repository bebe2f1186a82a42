/-! what would be: rehearsals -/
theorem opc_sh {ψ φ : jSt} {a a' : Nat} : ∀ {k : Nat}, (∀ j, j < k → φ (a' + j) 44 = ψ (a + j) 44) → opc φ a' k = opc ψ a k
  | 0, _ => rfl
  | k + 1, h => by
    show opc φ a' k + _ = opc ψ a k + _
    rw [opc_sh (fun j hj => h j (Nat.lt_succ_of_lt hj)), h k (Nat.lt_succ_self k)]
/-- what no copy has told of the rehearsal is as it was made -/
def RS (ψ : jSt) : Prop := (∀ b : Nat, b < 8 → ψ (61 + 2 + b) 0 = (b : Int)) ∧ (∀ b : Nat, b < 8 → ψ 2 81 ≤ b → ∀ k, 1 ≤ k → k < 13 → ψ (61 + 2 + b) k = if k = 9 then 1 else 0)
  ∧ (∀ c : Nat, c < 6 → ψ 2 83 ≤ c → ψ (61 + 11 + 8 * c) 21 = 0 ∧ ψ (61 + 11 + 8 * c) 22 = -1)
/-- alike but in what a copy tells -/
def jSq (ψ φ : jSt) : Prop := jG φ ∧ ∀ a k, ¬ live ψ a k → φ a k = ψ a k
theorem live_eq {ψ φ : jSt} (h : jSq ψ φ) : live φ = live ψ := by
  have e81 := h.2 2 81 (live_lo (by decide))
  have e83 := h.2 2 83 (live_lo (by decide))
  funext a k
  unfold live
  rw [e81, e83]
  refine propext ⟨fun q => ?_, fun q => ?_⟩
  · rcases q with q | q | q | ⟨c, m, q1, q2, q3⟩
    · exact Or.inl q
    · exact Or.inr (Or.inl q)
    · exact Or.inr (Or.inr (Or.inl q))
    · by_cases hc : 2 + 11 + 8 * c < 61
      · rw [h.2 _ 21 (live_lo hc)] at q2
        exact Or.inr (Or.inr (Or.inr ⟨c, m, q1, q2, q3⟩))
      · by_cases hl : live ψ (2 + 11 + 8 * c) 21
        · exfalso
          unfold live at hl
          rcases hl with q | ⟨b, w1, w2, w3⟩ | ⟨c2, w1, w2, w3⟩ | ⟨c2, m2, w1, w2, w3, w4⟩ <;> omega
        · rw [h.2 _ 21 hl] at q2
          exact Or.inr (Or.inr (Or.inr ⟨c, m, q1, q2, q3⟩))
  · rcases q with q | q | q | ⟨c, m, q1, q2, q3⟩
    · exact Or.inl q
    · exact Or.inr (Or.inl q)
    · exact Or.inr (Or.inr (Or.inl q))
    · by_cases hl : live ψ (2 + 11 + 8 * c) 21
      · exfalso
        unfold live at hl
        rcases hl with q | ⟨b, w1, w2, w3⟩ | ⟨c2, w1, w2, w3⟩ | ⟨c2, m2, w1, w2, w3, w4⟩ <;> omega
      · rw [← h.2 _ 21 hl] at q2
        exact Or.inr (Or.inr (Or.inr ⟨c, m, q1, q2, q3⟩))
theorem CP_uniq {ψ ψ0 φ1 φ2 : jSt} {n nc : Nat} (hn : ψ 2 81 = (n : Int)) (hnc : ψ 2 83 = (nc : Int)) (hn8 : n ≤ 8) (hnc6 : nc ≤ 6) (hmm : ∀ c : Nat, c < 6 → ψ (2 + 11 + 8 * c) 21 ≤ 6) (hS : jSq ψ ψ0) (h1 : CP ψ n nc φ1) (h2 : CP ψ0 n nc φ2) : φ2 = φ1 := by
  have hlv := live_eq hS
  have hlo : ∀ a k, a < 61 → ψ0 a k = ψ a k := fun a k h => hS.2 a k (live_lo h)
  obtain ⟨χ1, ⟨-, a1, a2, a3, a4, a5⟩, -, e1⟩ := h1
  obtain ⟨χ2, ⟨-, b1, b2, b3, b4, b5⟩, -, e2⟩ := h2
  funext a k
  rw [e1, e2]
  by_cases q : k = 97 ∧ a = 61
  · obtain ⟨rfl, rfl⟩ := q
    rw [jU_eq, jU_eq]
  rw [jU_nk2 q, jU_nk2 q]
  by_cases hl : live ψ a k
  · unfold live at hl
    rcases hl with ⟨rfl, w⟩ | ⟨b, w1, rfl, w3⟩ | ⟨c, w1, rfl, w3⟩ | ⟨c, m, w1, w2, rfl, w4⟩
    · rcases w with rfl | w
      · rw [a2, b2, hlo _ _ (by decide)]
      · rw [a5 k w.1 (by omega), b5 k w.1 (by omega), hlo _ _ (by decide)]
    · rw [a3 b (by omega) k w3.1 w3.2, b3 b (by omega) k w3.1 w3.2, hlo _ _ (by omega)]
    · have h4 := a4 c (by omega)
      have h5 := b4 c (by omega)
      rcases w3 with rfl | rfl
      · rw [h4.1, h5.1, hlo _ _ (by omega)]
      · rw [h4.2.1, h5.2.1, hlo _ _ (by omega)]
    · have h9 := hmm c (by omega)
      rw [(a4 c (by omega)).2.2 m w2 k w4.1 w4.2, (b4 c (by omega)).2.2 m (by rw [hlo _ _ (by omega)]; exact w2) k w4.1 w4.2, hlo _ _ (by omega)]
  · rw [a1 a k hl, b1 a k (by rw [hlv]; exact hl), hS.2 a k hl]
/-- the rehearsal s seconds on -/
def RB (ψ : jSt) (n s : Nat) (χ : jSt) : Prop := jG χ ∧ jS χ 61 ∧ jY χ 61 ∧ (∀ a k, ¬ live ψ a k → χ a k = ψ a k) ∧ χ 61 81 = (n : Int) ∧ χ 61 83 = ψ 2 83 ∧ (∀ c : Nat, (c : Int) < ψ 2 83 → χ (61 + 11 + 8 * c) 21 = ψ (2 + 11 + 8 * c) 21) ∧ χ 61 86 = ψ 2 86 + s
theorem RB_copy {ψ φ : jSt} {n nc : Nat} (hn : ψ 2 81 = (n : Int)) (hnc : ψ 2 83 = (nc : Int)) (hS : jS ψ 2) (hY : jY ψ 2) (hR : RS ψ) (h : CP ψ n nc φ) : RB ψ n 0 φ ∧ φ 61 97 = -1 ∧ φ 61 91 = ψ 2 91 ∧ φ 61 95 = ψ 2 95 := by
  obtain ⟨χ, ⟨hG0, a1, a2, a3, a4, a5⟩, hG, e⟩ := h
  obtain ⟨s81, s83, s84, sB, sC, sM, sD⟩ := hS
  obtain ⟨y86, y87, y88, y89, yk, yb, ym, yr, yn, yo⟩ := hY
  obtain ⟨r1, r2, r3⟩ := hR
  have hk : ∀ a k, ¬ (k = 97 ∧ a = 61) → φ a k = χ a k := fun a k q => by rw [e]; exact jU_nk2 q
  have n0 : ∀ b : Nat, b < 8 → φ (61 + 2 + b) 0 = (b : Int) := fun b hb => by
    rw [hk _ _ (by omega), a1 _ _ (by rintro (q | ⟨b2, q1, q2, q3⟩ | ⟨c, q1, q2, q3⟩ | ⟨c, m, q1, q2, q3, q4⟩) <;> omega)]
    exact r1 b hb
  have bl : ∀ b, b < n → ∀ k, 1 ≤ k → k < 13 → φ (61 + 2 + b) k = ψ (2 + 2 + b) k := fun b hb k k1 k2 => by
    rw [hk _ _ (by omega)]
    exact a3 b hb k k1 k2
  have bd : ∀ b : Nat, b < 8 → ¬ b < n → ∀ k, 1 ≤ k → k < 13 → φ (61 + 2 + b) k = if k = 9 then 1 else 0 := fun b hb h k k1 k2 => by
    rw [hk _ _ (by omega), a1 _ _ (by rintro (q | ⟨b2, q1, q2, q3⟩ | ⟨c, q1, q2, q3⟩ | ⟨c, m, q1, q2, q3, q4⟩) <;> omega)]
    exact r2 b hb (by omega) k k1 k2
  have cl : ∀ c, c < nc → φ (61 + 11 + 8 * c) 21 = ψ (2 + 11 + 8 * c) 21 ∧ φ (61 + 11 + 8 * c) 22 = ψ (2 + 11 + 8 * c) 22 ∧ ∀ m : Nat, (m : Int) < ψ (2 + 11 + 8 * c) 21 → ∀ k, 40 ≤ k → k < 46 → φ (61 + 13 + 8 * c + m) k = ψ (2 + 13 + 8 * c + m) k := fun c hc => by
    obtain ⟨h1, h2, h3⟩ := a4 c hc
    exact ⟨by rw [hk _ _ (by omega)]; exact h1, by rw [hk _ _ (by omega)]; exact h2, fun m hm k k1 k2 => by rw [hk _ _ (by omega)]; exact h3 m hm k k1 k2⟩
  have cd : ∀ c : Nat, c < 6 → ¬ c < nc → φ (61 + 11 + 8 * c) 21 = 0 ∧ φ (61 + 11 + 8 * c) 22 = -1 := fun c hc h => by
    rw [hk _ _ (by omega), hk _ _ (by omega), a1 _ _ (by rintro (q | ⟨b2, q1, q2, q3⟩ | ⟨c, q1, q2, q3⟩ | ⟨c, m, q1, q2, q3, q4⟩) <;> omega), a1 _ _ (by rintro (q | ⟨b2, q1, q2, q3⟩ | ⟨c, q1, q2, q3⟩ | ⟨c, m, q1, q2, q3, q4⟩) <;> omega)]
    exact r3 c hc (by omega)
  have rk : ∀ k, 83 ≤ k → k < 97 → φ 61 k = ψ 2 k := fun k k1 k2 => by
    rw [hk _ _ (by omega)]
    exact a5 k k1 k2
  have e81 : φ 61 81 = ψ 2 81 := by rw [hk _ _ (by omega)]; exact a2
  have e83 := rk 83 (by decide) (by decide)
  have e84 := rk 84 (by decide) (by decide)
  have e86 := rk 86 (by decide) (by decide)
  have e87 := rk 87 (by decide) (by decide)
  have e88 := rk 88 (by decide) (by decide)
  have e89 := rk 89 (by decide) (by decide)
  have lt_nc : ∀ (c m : Nat), c < 6 → (m : Int) < φ (61 + 11 + 8 * c) 21 → c < nc := fun c m hc hm => by
    by_cases q : c < nc
    · exact q
    · have := (cd c hc q).1
      omega
  have eopn : opn φ 61 = opn ψ 2 := by
    by_cases q : ψ 2 87 = -1
    · unfold opn
      rw [if_pos q, if_pos (by omega)]
    · obtain ⟨c, hc⟩ := Int.eq_ofNat_of_zero_le (show 0 ≤ ψ 2 87 by omega)
      have hcn : c < nc := by omega
      obtain ⟨mc, hmc⟩ := Int.eq_ofNat_of_zero_le (sC c (by omega)).1.1
      rw [opn_at hc hmc, opn_at (e87.trans hc) ((cl c hcn).1.trans hmc)]
      exact opc_sh (fun j hj => (cl c hcn).2.2 j (by omega) 44 (by decide) (by decide))
  refine ⟨⟨hG, ⟨by omega, by omega, by omega, fun b hb => ?_, fun c hc => ?_, fun c m hc hm => ?_, fun c m m' hc hm hm' hq => ?_⟩, ⟨by omega, by omega, by omega, by omega, fun k k1 k2 => ?_, fun b hb => ?_, fun c m hc hm => ?_, fun c hc m hm => ?_, fun q => ?_, fun q => ?_⟩, fun a k hl => ?_, by omega, e83, fun c hc => (cl c (by omega)).1, by omega⟩, by rw [e, jU_eq], rk 91 (by decide) (by decide), rk 95 (by decide) (by decide)⟩
  · by_cases q : b < n
    · have h := sB b hb
      unfold jsB at *
      rw [n0 b hb, bl b q 1 (by decide) (by decide), bl b q 2 (by decide) (by decide), bl b q 4 (by decide) (by decide), bl b q 5 (by decide) (by decide), bl b q 6 (by decide) (by decide), bl b q 7 (by decide) (by decide), bl b q 8 (by decide) (by decide), bl b q 9 (by decide) (by decide), bl b q 10 (by decide) (by decide)]
      exact ⟨rfl, h.2⟩
    · unfold jsB
      rw [n0 b hb, bd b hb q 1 (by decide) (by decide), bd b hb q 2 (by decide) (by decide), bd b hb q 4 (by decide) (by decide), bd b hb q 5 (by decide) (by decide), bd b hb q 6 (by decide) (by decide), bd b hb q 7 (by decide) (by decide), bd b hb q 8 (by decide) (by decide), bd b hb q 9 (by decide) (by decide), bd b hb q 10 (by decide) (by decide)]
      exact ⟨rfl, by decide, by decide, by decide, by decide, by decide, by decide, by decide, by decide, by decide⟩
  · by_cases q : c < nc
    · rw [(cl c q).1, (cl c q).2.1]
      exact sC c hc
    · rw [(cd c hc q).1, (cd c hc q).2]
      decide
  · have q := lt_nc c m hc hm
    rw [(cl c q).1] at hm
    have h3 := (cl c q).2.2 m hm
    unfold jsM
    rw [h3 40 (by decide) (by decide), h3 41 (by decide) (by decide), h3 42 (by decide) (by decide), h3 43 (by decide) (by decide), e81]
    exact sM c m hc hm
  · have q := lt_nc c m hc hm
    rw [(cl c q).1] at hm hm'
    rw [(cl c q).2.2 m hm 40 (by decide) (by decide), (cl c q).2.2 m' hm' 40 (by decide) (by decide)] at hq
    exact sD c m m' hc hm hm' hq
  · rw [rk k (by omega) (by omega), e86]
    exact yk k k1 k2
  · by_cases q : b < n
    · rw [bl b q 3 (by decide) (by decide), bl b q 11 (by decide) (by decide), e86]
      exact yb b hb
    · rw [bd b hb q 3 (by decide) (by decide), bd b hb q 11 (by decide) (by decide), e86]
      exact ⟨by decide, by decide, by
        show (0 : Int) ≤ _
        omega⟩
  · have q := lt_nc c m hc hm
    rw [(cl c q).1] at hm
    rw [(cl c q).2.2 m hm 44 (by decide) (by decide), (cl c q).2.2 m hm 45 (by decide) (by decide), e86]
    exact ym c m hc hm
  · have q : c < nc := by omega
    rw [(cl c q).1] at hm
    rw [(cl c q).2.2 m hm 44 (by decide) (by decide)]
    exact yr c (by omega) m hm
  · rw [e88]
    exact yn (by omega)
  · rw [e89]
    exact yo (by omega)
  · rw [hk _ _ (fun q => hl (Or.inl ⟨q.2, by omega⟩))]
    exact a1 a k hl
theorem RB_D {ψ χ : jSt} {n s : Nat} (hn : ψ 2 81 = (n : Int)) (h : RB ψ n s χ) {a k : Nat} (hd : jD χ 61 a k) : live ψ a k := by
  obtain ⟨_, _, _, _, e81, e83, e21, _⟩ := h
  rcases hd with ⟨q1, q2⟩ | ⟨b, q1, q2, q3⟩ | ⟨c, m, q1, q2, q3, q4⟩
  · exact Or.inl ⟨q1, by omega⟩
  · exact Or.inr (Or.inl ⟨b, by omega, q2, by omega, by omega⟩)
  · rw [e83] at q1
    rw [e21 c q1] at q2
    exact Or.inr (Or.inr (Or.inr ⟨c, m, q1, q2, q3, by omega, by omega⟩))
theorem RB_step {ψ χ χ' : jSt} {n s : Nat} (hn : ψ 2 81 = (n : Int)) (h : RB ψ n s χ) (h9 : SEC χ 61 n χ') : RB ψ n (s + 1) χ' := by
  have hD := fun a k => RB_D hn h (a := a) (k := k)
  obtain ⟨_, hS, hY, hl, e81, e83, e21, e86⟩ := h
  obtain ⟨hG, hF, hY', s86, _⟩ := h9
  refine ⟨hG, jS_fr (fun a k hk => jD_key hF hk) hS, hY', fun a k h => ?_, by rw [jD_key hF (by decide)]; exact e81, by rw [jD_key hF (by decide)]; exact e83, fun c hc => by rw [jD_key hF (by decide)]; exact e21 c hc, by rw [s86, e86]; omega⟩
  rw [hF a k (fun q => h (hD a k q))]
  exact hl a k h
/-! brakes mended -/
def q62 (ψ : jSt) (r i : Nat) (φ : jSt) : Prop := jG φ ∧ (∀ x k, ¬ (k = 10 ∧ r + 2 ≤ x ∧ x < r + 2 + i) → φ x k = ψ x k) ∧ (∀ b, b < i → φ (r + 2 + b) 10 = 0)
theorem q62_step {ψ φ φ' : jSt} {r i : Nat} (h : q62 ψ r i φ) (hG : jG φ') (e : φ' = jU φ (r + 2 + i) 10 0) : q62 ψ r (i + 1) φ' := by
  obtain ⟨h0, h1, h2⟩ := h
  subst e
  refine ⟨hG, fun x k hk => ?_, fun b hb => ?_⟩
  · rw [jU_nk2 (by omega)]
    exact h1 x k (by omega)
  · by_cases q : b = i
    · subst q; rw [jU_eq]
    · rw [jU_nk2 (by omega)]
      exact h2 b (by omega)
theorem RB_mend {ψ χ χ' : jSt} {n s : Nat} (hn : ψ 2 81 = (n : Int)) (hn8 : n ≤ 8) (h : RB ψ n s χ) (h9 : q62 χ 61 n χ') : RB ψ n s χ' := by
  obtain ⟨_, hS, hY, hl, e81, e83, e21, e86⟩ := h
  obtain ⟨hG, h1, h2⟩ := h9
  have hk : ∀ x k, ¬ k = 10 → χ' x k = χ x k := fun x k q => h1 x k (fun q2 => q q2.1)
  obtain ⟨s81, s83, s84, sB, sC, sM, sD⟩ := hS
  obtain ⟨y86, y87, y88, y89, yk, yb, ym, yr, yn, yo⟩ := hY
  have eo : opn χ' 61 = opn χ 61 := opn_keys fun a k q => hk a k (by omega)
  refine ⟨hG, ⟨by rw [hk _ _ (by decide)]; exact s81, by rw [hk _ _ (by decide)]; exact s83, by rw [hk _ _ (by decide)]; exact s84, fun b hb => ?_, fun c hc => by rw [hk _ _ (by decide), hk _ _ (by decide)]; exact sC c hc, fun c m hc hm => ?_, fun c m m' hc hm hm' hq => ?_⟩, ⟨by rw [hk _ _ (by decide)]; exact y86, by rw [hk _ _ (by decide), hk _ _ (by decide)]; exact y87, by rw [hk _ _ (by decide)]; exact y88, by rw [hk _ _ (by decide), hk _ _ (by decide)]; exact y89, fun k k1 k2 => by rw [hk _ k (by omega), hk _ 86 (by decide)]; exact yk k k1 k2, fun b hb => by rw [hk _ 3 (by decide), hk _ 11 (by decide), hk _ 86 (by decide)]; exact yb b hb, fun c m hc hm => ?_, fun c hc m hm => ?_, fun q => ?_, fun q => ?_⟩, fun a k h => ?_, by rw [hk _ _ (by decide)]; exact e81, by rw [hk _ _ (by decide)]; exact e83, fun c hc => by rw [hk _ _ (by decide)]; exact e21 c hc, by rw [hk _ _ (by decide)]; exact e86⟩
  · have h := sB b hb
    unfold jsB at *
    rw [hk _ 0 (by decide), hk _ 1 (by decide), hk _ 2 (by decide), hk _ 4 (by decide), hk _ 5 (by decide), hk _ 6 (by decide), hk _ 7 (by decide), hk _ 8 (by decide), hk _ 9 (by decide)]
    refine ⟨h.1, h.2.1, h.2.2.1, h.2.2.2.1, h.2.2.2.2.1, h.2.2.2.2.2.1, h.2.2.2.2.2.2.1, h.2.2.2.2.2.2.2.1, h.2.2.2.2.2.2.2.2.1, ?_⟩
    by_cases q : b < n
    · exact Or.inl (h2 b q)
    · rw [h1 _ 10 (by omega)]
      exact h.2.2.2.2.2.2.2.2.2
  · rw [hk _ _ (by decide)] at hm
    unfold jsM
    rw [hk _ 40 (by decide), hk _ 41 (by decide), hk _ 42 (by decide), hk _ 43 (by decide), hk _ 81 (by decide)]
    exact sM c m hc hm
  · rw [hk _ _ (by decide)] at hm hm'
    rw [hk _ _ (by decide), hk _ _ (by decide)] at hq
    exact sD c m m' hc hm hm' hq
  · rw [hk _ _ (by decide)] at hm
    rw [hk _ 44 (by decide), hk _ 45 (by decide), hk _ 86 (by decide)]
    exact ym c m hc hm
  · rw [hk _ _ (by decide)] at hc hm
    rw [hk _ 44 (by decide)]
    exact yr c hc m hm
  · rw [hk _ _ (by decide)] at q ⊢
    exact yn q
  · rw [eo] at q
    rw [hk _ _ (by decide)]
    exact yo q
  · rw [h1 a k (fun q => h (Or.inr (Or.inl ⟨a - (61 + 2), by omega, by omega, by omega, by omega⟩)))]
    exact hl a k h
/-! a cue begins in the rehearsal -/
theorem RB_begin {ψ χ χ' : jSt} {n s c mc : Nat} (h : RB ψ n s χ) (hc : (c : Int) < ψ 2 83) (hc6 : c < 6) (hmc : ψ (2 + 11 + 8 * c) 21 = (mc : Int)) (h9 : q35 χ 61 c mc χ') : RB ψ n s χ' := by
  obtain ⟨_, hS, hY, hl, e81, e83, e21, e86⟩ := h
  obtain ⟨hG, f87, f88, f89, f4, f5⟩ := h9
  obtain ⟨y86, y87, y88, y89, yk, yb, ym, yr, yn, yo⟩ := hY
  have hk : ∀ x k, ¬ (k = 44 ∨ k = 45 ∨ k = 87 ∨ k = 88 ∨ k = 89) → χ' x k = χ x k := fun x k q => f5 x k (by omega) (by omega)
  refine ⟨hG, jS_fr (fun a k q => hk a k (by omega)) hS, ⟨by rw [hk _ _ (by decide)]; exact y86, by rw [f87, hk _ _ (by decide)]; omega, Or.inl f88, by rw [f89, hk _ _ (by decide)]; omega, fun k k1 k2 => by rw [hk _ k (by omega), hk _ 86 (by decide)]; exact yk k k1 k2, fun b hb => by rw [hk _ 3 (by decide), hk _ 11 (by decide), hk _ 86 (by decide)]; exact yb b hb, fun c' m hc' hm => ?_, fun c' hc' m hm => ?_, fun q => f88, fun q => f89⟩, fun a k h => ?_, by rw [hk _ _ (by decide)]; exact e81, by rw [hk _ _ (by decide)]; exact e83, fun c hc => by rw [hk _ _ (by decide)]; exact e21 c hc, by rw [hk _ _ (by decide)]; exact e86⟩
  · rw [hk _ _ (by decide)] at hm
    have h1 := ym c' m hc' hm
    rw [hk _ 86 (by decide)]
    by_cases q : 61 + 13 + 8 * c ≤ 61 + 13 + 8 * c' + m ∧ 61 + 13 + 8 * c' + m < 61 + 13 + 8 * c + mc
    · have h2 := f4 (61 + 13 + 8 * c' + m - (61 + 13 + 8 * c)) (by omega)
      rw [show 61 + 13 + 8 * c + (61 + 13 + 8 * c' + m - (61 + 13 + 8 * c)) = 61 + 13 + 8 * c' + m by omega] at h2
      rw [h2.1, h2.2]
      omega
    · rw [f5 _ 44 (by omega) (by omega), f5 _ 45 (by omega) (by omega)]
      exact h1
  · rw [hk _ _ (by decide)] at hm
    have e : c' = c := by omega
    subst e
    rw [e21 c' hc] at hm
    rw [(f4 m (by omega)).1]
    omega
  · rw [f5 a k (fun q => h (Or.inr (Or.inr (Or.inr ⟨c, a - (61 + 13 + 8 * c), hc, by omega, by omega, by omega, by omega⟩)))) (fun q => h (Or.inl ⟨q.1, by omega⟩))]
    exact hl a k h
section P35
variable {xs : Nat → Int32} {L0 : Nat}
theorem m_62 {ψ : jSt} {r : Nat} (hr : jR2 r) (n : Nat) (hn : ψ r 81 = (n : Int)) (hn8 : n ≤ 8) (hG : jG ψ) : JZ Eq xs L0 62 0 ([some (.ref r)] ++ List.replicate 1 none) [] ψ (oV (q62 ψ r n)) := by
  have hrig := jR_rig hr
  have hr' : r = 2 ∨ r = 61 := hr
  have hrl : r < 131 := by omega
  refine JZ_iconst i_62_0 ?_
  refine JZ_istore_n i_62_1 (by rw [l_62]; decide) (by rfl) ?_
  refine JZ_fg (L' := [some (.ref r), some (.int (jI (((0 : Nat) : Int))))]) ?_ (by repeat (first | exact trivial | refine ⟨rfl, ?_⟩))
  refine JZ_for (σ := Unit) (N := n) (I := fun i _ φ => q62 ψ r i φ) (Lf := fun i _ => [some (.ref r), some (.int (jI ((i : Int))))]) ?_ ?_ n 0 () ψ (by omega) ?_
  · intro i u φ hi hI hK
    have hG := hI.1
    have e81 : φ r 81 = (n : Int) := by rw [hI.2.1 _ _ (by omega)]; exact hn
    have hbar := jR_bar hr (show i < 8 by omega)
    refine JZ_iload_n i_62_2 (by rfl) ?_
    refine JZ_aload_n i_62_3 (by rfl) ?_
    refine JZ_gB (key := 81) i_62_4 f_62_37 (by assumption) (by rfl) rfl hG (fun u4 v4 => ?_)
    refine JZ_icge (tg := 26) i_62_7 (by decide) (by omega) (by omega) (fun h7 => ?_) (fun h7 => ?_)
    · exfalso; omega
    refine JZ_aload_n i_62_10 (by rfl) ?_
    refine JZ_gR i_62_11 f_62_23 (by assumption) (by rfl) ?_
    refine JZ_iload_n i_62_14 (by rfl) ?_
    refine JZ_aBar (i) i_62_15 hr (by omega) (by omega) ?_
    refine JZ_iconst i_62_16 ?_
    refine JZ_pB (key := 10) i_62_17 f_62_93 (by assumption) (by rfl) rfl (Or.inr ⟨t_0_10, by omega⟩) (by rfl) hG (by omega) (fun hG => ?_)
    refine JZ_iinc i_62_20 (by rfl) (by rw [l_62]; decide) (by rfl) ?_
    refine JZ_goto (tg := 2) i_62_23 (by decide) ?_
    exact JZ_fg (hK () _ (q62_step hI hG rfl)) (by repeat (first | exact trivial | refine ⟨rfl, ?_⟩))
  · intro u φ hI
    have hG := hI.1
    have e81 : φ r 81 = (n : Int) := by rw [hI.2.1 _ _ (by omega)]; exact hn
    refine JZ_iload_n i_62_2 (by rfl) ?_
    refine JZ_aload_n i_62_3 (by rfl) ?_
    refine JZ_gB (key := 81) i_62_4 f_62_37 (by assumption) (by rfl) rfl hG (fun u4 v4 => ?_)
    refine JZ_icge (tg := 26) i_62_7 (by decide) (by omega) (by omega) (fun h7 => ?_) (fun h7 => ?_)
    · refine JZ_vret i_62_26 r_62 ?_
      exact hI
    exfalso; omega
  · exact ⟨hG, fun _ _ _ => rfl, fun b hb => absurd hb (Nat.not_lt_zero b)⟩
def RH (ψ : jSt) (c n mc s : Nat) (χ : jSt) : Prop := RB ψ n s χ ∧ χ 61 88 = 0 ∧ χ 61 91 = ψ 2 91 ∧ χ 61 97 = -1 ∧ (mc = 0 → s = 0 ∧ χ 61 87 = (c : Int))
def q63 (ψ : jSt) (n mc : Nat) (x : Int) (φ : jSt) : Prop := jSq ψ φ ∧ (x = -1 ∨ (1 ≤ x ∧ x ≤ 200)) ∧ (-1 ≤ φ 61 97 ∧ φ 61 97 < (n : Int)) ∧ (0 ≤ x → φ 61 97 = -1) ∧ (mc = 0 → x = 1)
theorem RH_go {ψ χ χ' : jSt} {c n mc s : Nat} (hn : ψ 2 81 = (n : Int)) (hc : (c : Int) < ψ 2 83) (hmc : ψ (2 + 11 + 8 * c) 21 = (mc : Int)) (h : RH ψ c n mc s χ) (h9 : SEC χ 61 n χ') : RB ψ n (s + 1) χ' ∧ (χ' 61 97 = -1 ∨ (χ' 61 88 = 1 ∧ 0 ≤ χ' 61 97 ∧ χ' 61 97 < (n : Int))) ∧ (mc = 0 → χ' 61 91 = ψ 2 91 + 1 ∧ χ' 61 88 = 0) := by
  obtain ⟨hB, e88, e91, e97, hz⟩ := h
  have hB' := RB_step hn hB h9
  obtain ⟨_, _, _, _, _, _, _, _, _, t1, _, _, _, t2⟩ := h9
  refine ⟨hB', by omega, fun q => ?_⟩
  obtain ⟨z1, z2⟩ := hz q
  have h1 : opn χ 61 = opc χ (61 + 13 + 8 * c) 0 := opn_at z2 (by rw [hB.2.2.2.2.2.2.1 c hc, hmc, q])
  have h2 := t2 h1 (by omega)
  exact ⟨by omega, h2.2⟩
theorem m_63r {ψ φ : jSt} {c n mc : Nat} (hn : ψ 2 81 = (n : Int)) (hn8 : n ≤ 8) (h83 : ψ 2 83 ≤ 6) (hc : (c : Int) < ψ 2 83) (hmc : ψ (2 + 11 + 8 * c) 21 = (mc : Int)) (hm6 : mc ≤ 6) (h86 : 0 ≤ ψ 2 86 ∧ ψ 2 86 ≤ 3000) (hB : RB ψ n 0 φ) (h97 : φ 61 97 = -1) (h91 : φ 61 91 = ψ 2 91) : JZ Eq xs L0 63 11 [some (.ref 1), some (.int (jI (c : Int))), none] [] φ (oI (q63 ψ n mc)) := by
  have hT := jTow1
  have hrA := jR_rig (r := 61) (by decide)
  have hrB := jR_rig (r := 2) (by decide)
  have hG := hB.1
  refine JZ_aload_n i_63_11 (by rfl) ?_
  refine JZ_gR i_63_12 f_63_16 jTow1 (by rfl) ?_
  refine JZ_v0V (j := 1) i_63_15 v_63_343 (by decide +kernel) rfl rfl (Nat.le_of_ble_eq_true rfl) (by assumption) rfl rfl (m_62 (r := 61) (by decide) n (by rw [hB.2.2.2.2.1]) hn8 hG) (fun φ1 hQ15 => ?_)
  have hB1 := RB_mend hn hn8 hB hQ15
  have hG := hB1.1
  have e83 := hB1.2.2.2.2.2.1
  refine JZ_aload_n i_63_18 (by rfl) ?_
  refine JZ_gR i_63_19 f_63_16 jTow1 (by rfl) ?_
  refine JZ_iload_n i_63_22 (by rfl) ?_
  refine JZ_v1V (j := 0) i_63_23 v_63_191 (by decide +kernel) rfl rfl (Nat.le_of_ble_eq_true rfl) (by assumption) rfl rfl (m_35 (r := 61) (by decide) c (by omega) mc (by rw [hB1.2.2.2.2.2.2.1 c hc]; exact hmc) hm6 rfl (by omega) (by omega) hG) (fun φ2 hQ23 => ?_)
  have hB2 := RB_begin hB1 hc (by omega) hmc hQ23
  have hG := hB2.1
  have w91 : φ2 61 91 = ψ 2 91 := by rw [hQ23.2.2.2.2.2 61 91 (by omega) (by omega), hQ15.2.1 61 91 (by omega)]; exact h91
  have w97 : φ2 61 97 = -1 := by rw [hQ23.2.2.2.2.2 61 97 (by omega) (by omega), hQ15.2.1 61 97 (by omega)]; exact h97
  refine JZ_iconst i_63_26 ?_
  refine JZ_istore_n i_63_27 (by rw [l_63]; decide) (by rfl) ?_
  refine JZ_fg (L' := [some (.ref 1), some (.int (jI (c : Int))), some (.int (jI (((0 : Nat) : Int) + 1)))]) ?_ (by repeat (first | exact trivial | refine ⟨rfl, ?_⟩))
  refine JZ_for (σ := Unit) (N := 200) (I := fun i _ φ => RH ψ c n mc i φ) (Lf := fun i _ => [some (.ref 1), some (.int (jI (c : Int))), some (.int (jI ((i : Int) + 1)))]) ?_ ?_ 200 0 () φ2 (by omega) ?_
  · intro i u φ hi hI hK
    have hG := hI.1.1
    have w1 : φ 2 91 = ψ 2 91 := hI.1.2.2.2.1 2 91 (live_lo (by decide))
    refine JZ_iload_n i_63_28 (by rfl) ?_
    refine JZ_sipush i_63_29 (by decide) ?_
    refine JZ_icgt (tg := 79) i_63_32 (by decide) (by omega) (by omega) (fun h32 => ?_) (fun h32 => ?_)
    · exfalso; omega
    refine JZ_aload_n i_63_35 (by rfl) ?_
    refine JZ_gR i_63_36 f_63_16 jTow1 (by rfl) ?_
    refine JZ_v0V (j := 1) i_63_39 v_63_220 (by decide +kernel) rfl rfl (Nat.le_of_ble_eq_true rfl) (by assumption) rfl rfl (m_53 (r := 61) (by decide) n hI.1.2.2.2.2.1 hn8 hI.1.2.1 hI.1.2.2.1 (by rw [hI.1.2.2.2.2.2.2.2]; omega) hG) (fun φ3 hQ39 => ?_)
    obtain ⟨hB9, hK9, hZ⟩ := RH_go hn hc hmc hI hQ39
    have hG := hB9.1
    have w2 : φ3 2 91 = ψ 2 91 := hB9.2.2.2.1 2 91 (live_lo (by decide))
    have w8 := hB9.2.2.1.2.2.1
    refine JZ_aload_n i_63_42 (by rfl) ?_
    refine JZ_gR i_63_43 f_63_16 jTow1 (by rfl) ?_
    refine JZ_gB (key := 88) i_63_46 f_63_198 (by assumption) (by rfl) rfl hG (fun u46 v46 => ?_)
    refine JZ_ifeq (tg := 54) i_63_49 (by decide) (by omega) (fun h49 => ?_) (fun h49 => ?_)
    · refine JZ_aload_n i_63_54 (by rfl) ?_
      refine JZ_gR i_63_55 f_63_16 jTow1 (by rfl) ?_
      refine JZ_gB (key := 91) i_63_58 f_63_258 (by assumption) (by rfl) rfl hG (fun u58 v58 => ?_)
      refine JZ_aload_n i_63_61 (by rfl) ?_
      refine JZ_gR i_63_62 f_63_10 jTow1 (by rfl) ?_
      refine JZ_gB (key := 91) i_63_65 f_63_258 (by assumption) (by rfl) rfl hG (fun u65 v65 => ?_)
      refine JZ_iceq (tg := 73) i_63_68 (by decide) (by omega) (by omega) (fun h68 => ?_) (fun h68 => ?_)
      · refine JZ_iinc i_63_73 (by rfl) (by rw [l_63]; decide) (by rfl) ?_
        refine JZ_goto (tg := 28) i_63_76 (by decide) ?_
        exact JZ_fg (hK () _ ⟨hB9, by omega, by omega, by omega, fun q => absurd (hZ q).1 (by omega)⟩) (by repeat (first | exact trivial | refine ⟨rfl, ?_⟩))
      refine JZ_iload_n i_63_71 (by rfl) ?_
      refine JZ_iret i_63_72 r_63 ?_
      exact ⟨⟨hG, hB9.2.2.2.1⟩, Or.inr ⟨by omega, by omega⟩, by omega, fun q => by omega, fun q => by have h1 := (hI.2.2.2.2 q).1; omega⟩
    refine JZ_iconst i_63_52 ?_
    refine JZ_iret i_63_53 r_63 ?_
    exact ⟨⟨hG, hB9.2.2.2.1⟩, Or.inl rfl, by omega, fun q => absurd q (by omega), fun q => absurd (hZ q).2 (by omega)⟩
  · intro u φ hI
    have hG := hI.1.1
    refine JZ_iload_n i_63_28 (by rfl) ?_
    refine JZ_sipush i_63_29 (by decide) ?_
    refine JZ_icgt (tg := 79) i_63_32 (by decide) (by omega) (by omega) (fun h32 => ?_) (fun h32 => ?_)
    · refine JZ_iconst i_63_79 ?_
      refine JZ_iret i_63_80 r_63 ?_
      exact ⟨⟨hG, hI.1.2.2.2.1⟩, Or.inl rfl, by have := hI.2.2.2.1; omega, fun q => absurd q (by omega), fun q => absurd (hI.2.2.2.2 q).1 (by omega)⟩
    exfalso; omega
  · exact ⟨hB2, hQ23.2.2.1, w91, w97, fun q => ⟨rfl, hQ23.2.1⟩⟩
theorem cp_at {ψ : jSt} (n nc : Nat) (hn : ψ 2 81 = (n : Int)) (hn8 : n ≤ 8) (hnc : ψ 2 83 = (nc : Int)) (hnc6 : nc ≤ 6) (hS : jS ψ 2) (hY : jY ψ 2) (hR : RS ψ) (h86 : ψ 2 86 ≤ 3000) (hG : jG ψ) {ψ0 : jSt} (h0 : jSq ψ ψ0) : JZ Eq xs L0 61 0 ([some (.ref 61), some (.ref 2)] ++ List.replicate 1 none) [] ψ0 (oV (CP ψ0 n nc)) := by
  have e : ∀ a k, a < 61 → ψ0 a k = ψ a k := fun a k h => h0.2 a k (live_lo h)
  obtain ⟨s81, s83, s84, sB, sC, sM, sD⟩ := hS
  refine m_61 n nc (by rw [e _ _ (by decide)]; exact hn) hn8 (by rw [e _ _ (by decide)]; exact hnc) hnc6 (fun c hc => by rw [e _ _ (by omega)]; exact (sC c hc).1.1) (fun c hc => by rw [e _ _ (by omega)]; exact (sC c hc).1.2) (fun b hb => ?_) (by rw [e _ _ (by decide)]; exact hY.2.2.1) h0.1
  obtain ⟨_, b1, _, _, _, _, _, b8, b9, b10⟩ := sB b hb
  rw [e _ 1 (by omega), e _ 8 (by omega), e _ 9 (by omega), e _ 10 (by omega)]
  exact ⟨b1, b8, b9, b10⟩
theorem m_63 {ψ : jSt} {c mc : Nat} (n nc : Nat) (hn : ψ 2 81 = (n : Int)) (hn8 : n ≤ 8) (hnc : ψ 2 83 = (nc : Int)) (hnc6 : nc ≤ 6) (hS : jS ψ 2) (hY : jY ψ 2) (hR : RS ψ) (h86 : ψ 2 86 ≤ 3000) (hG : jG ψ) (hc : (c : Int) < ψ 2 83) (hmc : ψ (2 + 11 + 8 * c) 21 = (mc : Int)) (hm6 : mc ≤ 6) : ∃ v ψx, q63 ψ n mc v ψx ∧ ∀ ψ0, jSq ψ ψ0 → JZ Eq xs L0 63 0 ([some (.ref 1), some (.int (jI (c : Int)))] ++ List.replicate 1 none) [] ψ0 (oI fun x φ => x = v ∧ φ = ψx) := by
  have hT := jTow1
  have hrA := jR_rig (r := 61) (by decide)
  have hrB := jR_rig (r := 2) (by decide)
  obtain ⟨_, φ, ⟨_, hCP⟩, _⟩ := cp_at (xs := xs) (L0 := L0) n nc hn hn8 hnc hnc6 hS hY hR h86 hG (ψ0 := ψ) ⟨hG, fun _ _ _ => rfl⟩
  obtain ⟨hB, h97, h91, _⟩ := RB_copy hn hnc hS hY hR hCP
  obtain ⟨_, ψx, ⟨v, rfl, hq⟩, hrun⟩ := m_63r (xs := xs) (L0 := L0) hn hn8 (by omega) hc hmc hm6 ⟨hY.1.1, h86⟩ hB h97 h91
  refine ⟨v, ψx, hq, fun ψ0 h0 => ?_⟩
  have hGp := hG
  have hG := h0.1
  refine JZ_aload_n i_63_0 (by rfl) ?_
  refine JZ_gR i_63_1 f_63_16 jTow1 (by rfl) ?_
  refine JZ_aload_n i_63_4 (by rfl) ?_
  refine JZ_gR i_63_5 f_63_10 jTow1 (by rfl) ?_
  refine JZ_v1V (j := 1) i_63_8 v_63_288 (by decide +kernel) rfl rfl (Nat.le_of_ble_eq_true rfl) (by assumption) (by first | rfl | (simp only [List.all_cons, List.all_nil, g_ok, Bool.and_true, Bool.true_and, Bool.and_eq_true, decide_eq_true_eq] <;> first | assumption | exact ⟨by assumption, by assumption⟩ | exact ⟨by assumption, by assumption, by assumption⟩ | omega)) rfl (cp_at n nc hn hn8 hnc hnc6 hS hY hR h86 hGp h0) (fun φ0 hQ8 => ?_)
  rw [CP_uniq hn hnc hn8 hnc6 (fun c hc => (hS.2.2.2.2.1 c hc).1.2) h0 hCP hQ8]
  exact ⟨_, ψx, ⟨v, rfl, rfl, rfl⟩, hrun⟩
theorem m_64 {ψ0 ψx : jSt} {c v : Int} (h : JZ Eq xs L0 63 0 ([some (.ref 1), some (.int (jI c))] ++ List.replicate 1 none) [] ψ0 (oI fun x φ => x = v ∧ φ = ψx)) : JZ Eq xs L0 64 0 ([some (.ref 1), some (.int (jI c))] ++ List.replicate 0 none) [] ψ0 (oI fun x φ => x = v ∧ φ = ψx) := by
  have hT := jTow1
  refine JZ_aload_n i_64_0 (by rfl) ?_
  refine JZ_iload_n i_64_1 (by rfl) ?_
  refine JZ_v1I (j := 1) i_64_2 v_64_279 (by decide +kernel) rfl rfl (Nat.le_of_ble_eq_true rfl) (by assumption) rfl rfl (h) (fun x ψ2 hQ2 => ?_)
  refine JZ_iret i_64_5 r_64 ?_
  exact hQ2
theorem m_65 {ψ0 ψx : jSt} {c v : Int} (h : JZ Eq xs L0 63 0 ([some (.ref 1), some (.int (jI c))] ++ List.replicate 1 none) [] ψ0 (oI fun x φ => x = v ∧ φ = ψx)) (hG : jG ψx) : JZ Eq xs L0 65 0 ([some (.ref 1), some (.int (jI c))] ++ List.replicate 0 none) [] ψ0 (oI fun x φ => x = ψx 61 97 ∧ φ = ψx) := by
  have hT := jTow1
  have hrA := jR_rig (r := 61) (by decide)
  refine JZ_aload_n i_65_0 (by rfl) ?_
  refine JZ_iload_n i_65_1 (by rfl) ?_
  refine JZ_v1I (j := 1) i_65_2 v_65_279 (by decide +kernel) rfl rfl (Nat.le_of_ble_eq_true rfl) (by assumption) rfl rfl (h) (fun x ψ2 hQ2 => ?_)
  rw [hQ2.2]
  refine JZ_pop i_65_5 rfl ?_
  refine JZ_aload_n i_65_6 (by rfl) ?_
  refine JZ_gR i_65_7 f_65_16 jTow1 (by rfl) ?_
  refine JZ_gB (key := 97) i_65_10 f_65_283 (by assumption) (by rfl) rfl hG (fun u10 v10 => ?_)
  refine JZ_iret i_65_13 r_65 ?_
  exact ⟨rfl, rfl⟩
def WH (ψ : jSt) (n s : Nat) (χ : jSt) : Prop := RB ψ n s χ ∧ ψ 2 95 ≤ χ 61 95 ∧ χ 61 95 ≤ ψ 2 95 + n * s
theorem WH_step {ψ χ χ' : jSt} {n s : Nat} (hn : ψ 2 81 = (n : Int)) (h : WH ψ n s χ) (h9 : SEC χ 61 n χ') : WH ψ n (s + 1) χ' := by
  obtain ⟨hB, h1, h2⟩ := h
  refine ⟨RB_step hn hB h9, ?_, ?_⟩
  · have := h9.2.2.2.2.2.2.1 95 (by decide) (by decide)
    omega
  · have := h9.2.2.2.2.2.2.2.2.2.2.2.1
    have e : (n : Int) * ((s + 1 : Nat) : Int) = n * s + n := by rw [Int.natCast_succ, Int.mul_add, Int.mul_one]
    omega
def q66 (ψ : jSt) (n t : Nat) (x : Int) (φ : jSt) : Prop := jSq ψ φ ∧ 0 ≤ x ∧ x ≤ n * t
theorem m_66r {ψ φ : jSt} {n : Nat} (t : Nat) (ht : 1 ≤ t ∧ t ≤ 60) (hn : ψ 2 81 = (n : Int)) (hn8 : n ≤ 8) (h86 : 0 ≤ ψ 2 86 ∧ ψ 2 86 ≤ 3000) (hB : RB ψ n 0 φ) (h95 : φ 61 95 = ψ 2 95) : JZ Eq xs L0 66 33 [some (.ref 1), some (.int (jI (t : Int))), none] [] φ (oI (q66 ψ n t)) := by
  have hT := jTow1
  have hrA := jR_rig (r := 61) (by decide)
  have hrB := jR_rig (r := 2) (by decide)
  have hG := hB.1
  refine JZ_iconst i_66_33 ?_
  refine JZ_istore_n i_66_34 (by rw [l_66]; decide) (by rfl) ?_
  refine JZ_fg (L' := [some (.ref 1), some (.int (jI (t : Int))), some (.int (jI (((0 : Nat) : Int))))]) ?_ (by repeat (first | exact trivial | refine ⟨rfl, ?_⟩))
  refine JZ_for (σ := Unit) (N := t) (I := fun i _ φ => WH ψ n i φ) (Lf := fun i _ => [some (.ref 1), some (.int (jI (t : Int))), some (.int (jI ((i : Int))))]) ?_ ?_ t 0 () φ (by omega) ?_
  · intro i u φ hi hI hK
    have hG := hI.1.1
    refine JZ_iload_n i_66_35 (by rfl) ?_
    refine JZ_iload_n i_66_36 (by rfl) ?_
    refine JZ_icge (tg := 53) i_66_37 (by decide) (by omega) (by omega) (fun h37 => ?_) (fun h37 => ?_)
    · exfalso; omega
    refine JZ_aload_n i_66_40 (by rfl) ?_
    refine JZ_gR i_66_41 f_66_16 jTow1 (by rfl) ?_
    refine JZ_v0V (j := 1) i_66_44 v_66_220 (by decide +kernel) rfl rfl (Nat.le_of_ble_eq_true rfl) (by assumption) rfl rfl (m_53 (r := 61) (by decide) n hI.1.2.2.2.2.1 hn8 hI.1.2.1 hI.1.2.2.1 (by rw [hI.1.2.2.2.2.2.2.2]; omega) hG) (fun φ3 hQ44 => ?_)
    refine JZ_iinc i_66_47 (by rfl) (by rw [l_66]; decide) (by rfl) ?_
    refine JZ_goto (tg := 35) i_66_50 (by decide) ?_
    exact JZ_fg (hK () _ (WH_step hn hI hQ44)) (by repeat (first | exact trivial | refine ⟨rfl, ?_⟩))
  · intro u φ hI
    have hG := hI.1.1
    have w2 : φ 2 95 = ψ 2 95 := hI.1.2.2.2.1 2 95 (live_lo (by decide))
    have w3 := hI.2
    refine JZ_iload_n i_66_35 (by rfl) ?_
    refine JZ_iload_n i_66_36 (by rfl) ?_
    refine JZ_icge (tg := 53) i_66_37 (by decide) (by omega) (by omega) (fun h37 => ?_) (fun h37 => ?_)
    · refine JZ_aload_n i_66_53 (by rfl) ?_
      refine JZ_gR i_66_54 f_66_16 jTow1 (by rfl) ?_
      refine JZ_gB (key := 95) i_66_57 f_66_270 (by assumption) (by rfl) rfl hG (fun u57 v57 => ?_)
      refine JZ_aload_n i_66_60 (by rfl) ?_
      refine JZ_gR i_66_61 f_66_10 jTow1 (by rfl) ?_
      refine JZ_gB (key := 95) i_66_64 f_66_270 (by assumption) (by rfl) rfl hG (fun u64 v64 => ?_)
      refine JZ_isub i_66_67 ?_
      refine JZ_iret i_66_68 r_66 ?_
      exact ⟨⟨hG, hI.1.2.2.2.1⟩, by omega, by omega⟩
    exfalso; omega
  · exact ⟨hB, by omega, by rw [h95]; simp⟩
theorem m_66 {ψ : jSt} (t : Nat) (ht : 1 ≤ t ∧ t ≤ 60) (n nc : Nat) (hn : ψ 2 81 = (n : Int)) (hn8 : n ≤ 8) (hnc : ψ 2 83 = (nc : Int)) (hnc6 : nc ≤ 6) (hS : jS ψ 2) (hY : jY ψ 2) (hR : RS ψ) (h86 : ψ 2 86 ≤ 3000) (hG : jG ψ) : ∃ v ψx, q66 ψ n t v ψx ∧ ∀ ψ0, jSq ψ ψ0 → JZ Eq xs L0 66 0 ([some (.ref 1), some (.int (jI (t : Int)))] ++ List.replicate 1 none) [] ψ0 (oI fun x φ => x = v ∧ φ = ψx) := by
  have hT := jTow1
  have hrA := jR_rig (r := 61) (by decide)
  have hrB := jR_rig (r := 2) (by decide)
  obtain ⟨_, φ, ⟨_, hCP⟩, _⟩ := cp_at (xs := xs) (L0 := L0) n nc hn hn8 hnc hnc6 hS hY hR h86 hG (ψ0 := ψ) ⟨hG, fun _ _ _ => rfl⟩
  obtain ⟨hB, _, _, h95⟩ := RB_copy hn hnc hS hY hR hCP
  obtain ⟨_, ψx, ⟨v, rfl, hq⟩, hrun⟩ := m_66r (xs := xs) (L0 := L0) t ht hn hn8 ⟨hY.1.1, h86⟩ hB h95
  refine ⟨v, ψx, hq, fun ψ0 h0 => ?_⟩
  have hGp := hG
  have hG := h0.1
  refine JZ_iload_n i_66_0 (by rfl) ?_
  refine JZ_iconst i_66_1 ?_
  refine JZ_iclt (tg := 11) i_66_2 (by decide) (by omega) (by omega) (fun h2 => ?_) (fun h2 => ?_)
  · exfalso; omega
  refine JZ_iload_n i_66_5 (by rfl) ?_
  refine JZ_bipush i_66_6 (by decide) ?_
  refine JZ_icle (tg := 22) i_66_8 (by decide) (by omega) (by omega) (fun h8 => ?_) (fun h8 => ?_)
  · refine JZ_aload_n i_66_22 (by rfl) ?_
    refine JZ_gR i_66_23 f_66_16 jTow1 (by rfl) ?_
    refine JZ_aload_n i_66_26 (by rfl) ?_
    refine JZ_gR i_66_27 f_66_10 jTow1 (by rfl) ?_
    refine JZ_v1V (j := 1) i_66_30 v_66_288 (by decide +kernel) rfl rfl (Nat.le_of_ble_eq_true rfl) (by assumption) (by first | rfl | (simp only [List.all_cons, List.all_nil, g_ok, Bool.and_true, Bool.true_and, Bool.and_eq_true, decide_eq_true_eq] <;> first | assumption | exact ⟨by assumption, by assumption⟩ | exact ⟨by assumption, by assumption, by assumption⟩ | omega)) rfl (cp_at n nc hn hn8 hnc hnc6 hS hY hR h86 hGp h0) (fun φ0 hQ8 => ?_)
    rw [CP_uniq hn hnc hn8 hnc6 (fun c hc => (hS.2.2.2.2.1 c hc).1.2) h0 hCP hQ8]
    exact ⟨_, ψx, ⟨v, rfl, rfl, rfl⟩, hrun⟩
  exfalso; omega
end P35
