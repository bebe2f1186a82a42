/-! a second, put together: playSecond -/
theorem opn_keys {ψ φ : jSt} {r : Nat} (h : ∀ a k, (k = 87 ∨ k = 21 ∨ k = 44) → φ a k = ψ a k) : opn φ r = opn ψ r := by
  unfold opn
  rw [h r 87 (by decide), h _ 21 (by decide), opc_eq (fun j _ => h _ 44 (by decide))]
def qT (ψ : jSt) (r n : Nat) (φ : jSt) : Prop := jG φ ∧ jFr (jD ψ r) ψ φ
  ∧ (∀ b, b < n → (0 ≤ φ (r + 2 + b) 3 ∧ φ (r + 2 + b) 3 ≤ 120) ∧ ∃ g : Int, 0 ≤ g ∧ g ≤ 8 ∧ (φ (r + 2 + b) 3 = ψ (r + 2 + b) 3 + g ∨ φ (r + 2 + b) 3 = ψ (r + 2 + b) 3 - g) ∧ φ (r + 2 + b) 11 = ψ (r + 2 + b) 11 + g ∧ (ψ (r + 2 + b) 10 = 0 → g ≤ 6 ∧ (g = 0 ∨ (0 ≤ ψ r 87 ∧ ψ r 88 = 0))))
  ∧ (∀ k j, k < n → j < n → btc φ (r + 2 + k) (φ (r + 2 + k) 3) (r + 2 + j) → btc ψ (r + 2 + k) (ψ (r + 2 + k) 3) (r + 2 + j))
  ∧ (∀ c' m' : Nat, c' < 6 → (m' : Int) < ψ (r + 11 + 8 * c') 21 → (φ (r + 13 + 8 * c' + m') 44 = ψ (r + 13 + 8 * c' + m') 44 ∨ (ψ (r + 13 + 8 * c' + m') 44 = 0 ∧ (φ (r + 13 + 8 * c' + m') 44 = 1 ∨ φ (r + 13 + 8 * c' + m') 44 = 2))) ∧ ψ (r + 13 + 8 * c' + m') 45 ≤ φ (r + 13 + 8 * c' + m') 45 ∧ φ (r + 13 + 8 * c' + m') 45 ≤ ψ (r + 13 + 8 * c' + m') 45 + 1)
  ∧ (φ r 86 = ψ r 86 + 1 ∧ φ r 87 = ψ r 87 ∧ φ r 91 = ψ r 91) ∧ (ψ r 89 ≤ φ r 89 ∧ φ r 89 ≤ ψ r 89 + 1)
  ∧ (ψ r 90 ≤ φ r 90 ∧ φ r 90 ≤ ψ r 90 + opn ψ r ∧ φ r 90 ≤ ψ r 90 + 6) ∧ (ψ r 92 ≤ φ r 92 ∧ φ r 92 ≤ ψ r 92 + 6) ∧ (ψ r 96 ≤ φ r 96 ∧ φ r 96 ≤ ψ r 96 + 6)
  ∧ (ψ r 94 ≤ φ r 94 ∧ φ r 94 ≤ ψ r 94 + n) ∧ (ψ r 95 ≤ φ r 95 ∧ φ r 95 ≤ ψ r 95 + n) ∧ φ r 94 + φ r 95 ≤ ψ r 94 + ψ r 95 + 2 * nbk ψ r n
  ∧ ((φ r 93 = ψ r 93 ∧ φ r 88 = ψ r 88 ∧ φ r 97 = ψ r 97) ∨ (φ r 93 = ψ r 93 + 1 ∧ φ r 88 = 1 ∧ 0 ≤ φ r 97 ∧ φ r 97 < (n : Int) ∧ 0 < opn φ r))
  ∧ opn φ r ≤ opn ψ r ∧ (¬ (0 ≤ ψ r 87 ∧ ψ r 88 = 0) → φ r 90 = ψ r 90 ∧ φ r 92 = ψ r 92 ∧ φ r 93 = ψ r 93 ∧ φ r 96 = ψ r 96 ∧ φ r 88 = ψ r 88 ∧ φ r 89 = ψ r 89)
theorem qT_mk {ψ ψA ψB φ : jSt} {r n : Nat} (hn : ψ r 81 = (n : Int)) (hA : qA ψ r n ψA) (hB : qB ψA r n ψB) (hC : qC ψB r n n φ) : qT ψ r n φ := by
  obtain ⟨a0, a1, a2, a3⟩ := hA
  have ak : ∀ a k, ¬ (k = 86 ∨ k = 12) → ψA a k = ψ a k := fun a k h => a3 a k (by omega) (by omega)
  have hFA : jFr (jD ψ r) ψ ψA := fun a k h => a3 a k (fun q => h (Or.inl ⟨q.2, by omega, by omega⟩)) (fun q => h (Or.inr (Or.inl ⟨a - (r + 2), by omega, by omega, by omega⟩)))
  have hDA := jD_eq hFA
  have oA : opn ψA r = opn ψ r := opn_keys fun a k hk => ak a k (by omega)
  obtain ⟨b0, hFB, b2, b3, b4, ⟨b86, b87, b91, b94, b95⟩, b89, b90, b92, b96, b10, bo, bs⟩ := hB
  have hFB9 := hFB
  rw [hDA] at hFB
  have kB : ∀ a k, ¬ (k = 3 ∨ k = 11 ∨ k = 12 ∨ k = 44 ∨ k = 45 ∨ (85 ≤ k ∧ k ≤ 97)) → ψB a k = ψ a k := fun a k h => (jD_key hFB9 h).trans (ak a k (by omega))
  obtain ⟨c0, c1, c2, c94, c95, cs, c3⟩ := hC
  have ck : ∀ a k, ¬ (k = 3 ∨ k = 11 ∨ k = 94 ∨ k = 95) → φ a k = ψB a k := fun a k h => c3 a k (by omega) (by omega)
  have hFC : jFr (jD ψ r) ψB φ := fun a k h => c3 a k (fun q => h (Or.inr (Or.inl ⟨a - (r + 2), by omega, by omega, by omega⟩))) (fun q => h (Or.inl ⟨q.1, by omega, by omega⟩))
  have oC : opn φ r = opn ψB r := opn_keys fun a k hk => ck a k (by omega)
  have nB : nbk ψB r n = nbk ψ r n := nbk_eq (fun a => kB a 10 (by decide)) n
  have x86 := ck r 86 (by decide)
  have x87 := ck r 87 (by decide)
  have x88 := ck r 88 (by decide)
  have x89 := ck r 89 (by decide)
  have x90 := ck r 90 (by decide)
  have x91 := ck r 91 (by decide)
  have x92 := ck r 92 (by decide)
  have x93 := ck r 93 (by decide)
  have x96 := ck r 96 (by decide)
  have x97 := ck r 97 (by decide)
  have y87 := ak r 87 (by decide)
  have y88 := ak r 88 (by decide)
  have y89 := ak r 89 (by decide)
  have y90 := ak r 90 (by decide)
  have y91 := ak r 91 (by decide)
  have y92 := ak r 92 (by decide)
  have y93 := ak r 93 (by decide)
  have y94 := ak r 94 (by decide)
  have y95 := ak r 95 (by decide)
  have y96 := ak r 96 (by decide)
  have y97 := ak r 97 (by decide)
  refine ⟨c0, jFr_tr hFA (jFr_tr hFB hFC), fun b hb => ?_, fun k j hk hj hb => ?_, fun c' m' hc' hm' => ?_, ⟨by omega, by omega, by omega⟩, by omega, by omega, by omega, by omega, by omega, by omega, ?_, ?_, by omega, fun q => ?_⟩
  · obtain ⟨p1, p2, p3, g1, p4, p5, p6, p7, p8⟩ := c1 b hb
    obtain ⟨q1, q2, q3, g2, q4, q5, q6, q7, q8⟩ := b2 b hb
    have e3 := ak (r + 2 + b) 3 (by decide)
    have e11 := ak (r + 2 + b) 11 (by decide)
    have e12 := a2 b hb
    have e10 := kB (r + 2 + b) 10 (by decide)
    refine ⟨⟨p2, p3⟩, ?_⟩
    rw [e3] at q6
    rw [e11] at q7
    rw [e10] at p8
    rw [y87, y88] at q8
    have hx : g1 = 0 ∨ g2 = 0 := by
      rcases p8 with p8 | ⟨_, p8⟩
      · exact Or.inl p8
      · refine Or.inr ?_
        rw [q3, e12] at p8
        clear x86 x87 x88 x89 x90 x91 x92 x93 x96 x97 y87 y88 y89 y90 y91 y92 y93 y94 y95 y96 y97 b86 b87 b91 b94 b95 b89 b90 b92 b96 b10 c94 c95 cs p6 p7 q8
        omega
    rcases hx with hx | hx
    · subst hx
      refine ⟨g2, q4, by omega, by omega, by omega, fun q => ⟨q5, q8⟩⟩
    · subst hx
      refine ⟨g1, p4, p5, by omega, by omega, fun q => ?_⟩
      rcases p8 with p8 | ⟨p8, _⟩
      · exact ⟨by omega, Or.inl p8⟩
      · exact absurd q p8
  · have h9 := b3 k j hk hj (c2 k j hk hj hb)
    rw [ak _ 3 (by decide)] at h9
    exact (btc_keys (fun a k hk => ak a k (by omega)) _ _ _).mp h9
  · have e21 := ak (r + 11 + 8 * c') 21 (by decide)
    have h9 := b4 c' m' hc' (by rw [e21]; exact hm')
    rw [ck _ 44 (by decide), ck _ 45 (by decide)]
    rw [ak _ 44 (by decide), ak _ 45 (by decide)] at h9
    exact h9
  · rw [nB] at cs
    omega
  · rw [x93, x88, x97, oC, ← y93, ← y88, ← y97]
    exact b10
  · have hq := bs (by rw [y87, y88]; exact q)
    have z90 : ψB r 90 = ψA r 90 := by rw [hq]
    have z92 : ψB r 92 = ψA r 92 := by rw [hq]
    have z93 : ψB r 93 = ψA r 93 := by rw [hq]
    have z96 : ψB r 96 = ψA r 96 := by rw [hq]
    have z88 : ψB r 88 = ψA r 88 := by rw [hq]
    have z89 : ψB r 89 = ψA r 89 := by rw [hq]
    exact ⟨by omega, by omega, by omega, by omega, by omega, by omega⟩
/-- of the counted ones, one by one -/
theorem k7 {P : Nat → Prop} (h90 : P 90) (h91 : P 91) (h92 : P 92) (h93 : P 93) (h94 : P 94) (h95 : P 95) (h96 : P 96) (k : Nat) (h1 : 90 ≤ k) (h2 : k ≤ 96) : P k := by
  have h : k = 90 ∨ k = 91 ∨ k = 92 ∨ k = 93 ∨ k = 94 ∨ k = 95 ∨ k = 96 := by omega
  rcases h with rfl | rfl | rfl | rfl | rfl | rfl | rfl <;> assumption
theorem SEC_no {ψ φ : jSt} {r n : Nat} (hn : ψ r 81 = (n : Int)) (hn8 : n ≤ 8) (hS : jS ψ r) (hY : jY ψ r) (h86 : ψ r 86 < 4000) (hT : qT ψ r n φ) (he : φ r 87 = -1 ∨ ¬ opn φ r = 0) : SEC ψ r n φ := by
  obtain ⟨t0, t1, t2, t3, t4, ⟨t86, t87, t91⟩, t89, t90, t92, t96, t94, t95, ts, t10, to, tg⟩ := hT
  obtain ⟨y86, y87, y88, y89, yk, yb, ym, yr, yn, yo⟩ := hY
  have y90 := yk 90 (by decide) (by decide)
  have y91 := yk 91 (by decide) (by decide)
  have y92 := yk 92 (by decide) (by decide)
  have y93 := yk 93 (by decide) (by decide)
  have y94 := yk 94 (by decide) (by decide)
  have y95 := yk 95 (by decide) (by decide)
  have y96 := yk 96 (by decide) (by decide)
  have t83 : φ r 83 = ψ r 83 := jD_key t1 (by decide)
  have t21 : ∀ c : Nat, φ (r + 11 + 8 * c) 21 = ψ (r + 11 + 8 * c) 21 := fun c => jD_key t1 (by decide)
  have hnn := opn_nn φ r
  have t93 : ψ r 93 ≤ φ r 93 ∧ φ r 93 ≤ ψ r 93 + 1 := by
    rcases t10 with ⟨q, _⟩ | ⟨q, _⟩ <;> omega
  refine ⟨t0, t1, ⟨by omega, by omega, ?_, by omega, ?_, fun b hb => ?_, fun c m hc hm => ?_, fun c hc m hm => ?_, fun q => ?_, fun q => ?_⟩, t86, fun b hb => (t2 b hb).2, t3, ?_, fun q => ?_, t90.2.1, ?_, ts, t95.2, Or.inl t91, fun q1 q2 => ?_⟩
  · rcases t10 with ⟨_, q, _⟩ | ⟨_, q, _⟩ <;> omega
  · exact k7 (by omega) (by omega) (by omega) (by omega) (by omega) (by omega) (by omega)
  · by_cases q : b < n
    · obtain ⟨q1, g, q2, q3, q4, q5, q6⟩ := t2 b q
      have h9 := (yb b hb).2
      exact ⟨q1, by omega⟩
    · have e3 : φ (r + 2 + b) 3 = ψ (r + 2 + b) 3 := t1 _ _ (by rintro (h | ⟨b2, h1, h2, h3⟩ | ⟨c, m, h1, h2, h3, h4⟩) <;> omega)
      have e11 : φ (r + 2 + b) 11 = ψ (r + 2 + b) 11 := t1 _ _ (by rintro (h | ⟨b2, h1, h2, h3⟩ | ⟨c, m, h1, h2, h3, h4⟩) <;> omega)
      have h9 := yb b hb
      rw [e3, e11]
      exact ⟨h9.1, by omega⟩
  · rw [t21] at hm
    have h9 := ym c m hc hm
    have h8 := t4 c m hc hm
    exact ⟨by omega, by omega⟩
  · rw [t21] at hm
    have hc6 : c < 6 := by have := hS.2.1; omega
    have h9 := yr c (by omega) m hm
    have h8 := (t4 c m hc6 hm).1
    omega
  · have h9 := yn (by omega)
    have h8 := (tg (by omega)).2.2.2.2.1
    omega
  · have h7 : φ r 87 = -1 := by
      rcases he with he | he
      · exact he
      · exact absurd q he
    have h8 := (tg (by omega)).2.2.2.2.2
    have h9 := yo (by unfold opn; rw [if_pos (by omega)])
    omega
  · exact k7 (by omega) (by omega) (by omega) (by omega) (by omega) (by omega) (by omega)
  · have h9 := tg q
    exact ⟨h9.1, h9.2.1, h9.2.2.1, h9.2.2.2.1⟩
  · rcases t10 with ⟨q1, q2, q3⟩ | ⟨q1, q2, q3, q4, q5⟩
    · exact Or.inl ⟨q1, q3⟩
    · exact Or.inr ⟨q1, q2, q3, q4⟩
  · rcases he with he | he <;> omega
theorem SEC_fin {ψ χ φ : jSt} {r n : Nat} (hn : ψ r 81 = (n : Int)) (hn8 : n ≤ 8) (hS : jS ψ r) (hY : jY ψ r) (h86 : ψ r 86 < 4000) (hT : qT ψ r n χ) (h87 : ¬ χ r 87 = -1) (he : opn χ r = 0) (hq : q52 χ r φ) : SEC ψ r n φ := by
  obtain ⟨t0, t1, t2, t3, t4, ⟨t86, t87, t91⟩, t89, t90, t92, t96, t94, t95, ts, t10, to, tg⟩ := hT
  obtain ⟨y86, y87, y88, y89, yk, yb, ym, yr, yn, yo⟩ := hY
  obtain ⟨f0, f91, f88, f89, f87, f5, f6⟩ := hq
  have y90 := yk 90 (by decide) (by decide)
  have y91 := yk 91 (by decide) (by decide)
  have y92 := yk 92 (by decide) (by decide)
  have y93 := yk 93 (by decide) (by decide)
  have y94 := yk 94 (by decide) (by decide)
  have y95 := yk 95 (by decide) (by decide)
  have y96 := yk 96 (by decide) (by decide)
  have t83 : χ r 83 = ψ r 83 := jD_key t1 (by decide)
  have t21 : ∀ c : Nat, χ (r + 11 + 8 * c) 21 = ψ (r + 11 + 8 * c) 21 := fun c => jD_key t1 (by decide)
  have fk : ∀ a k, ¬ (k = 44 ∨ k = 45 ∨ k = 87 ∨ k = 88 ∨ k = 89 ∨ k = 91) → φ a k = χ a k := fun a k h => f5 a k (by omega) (by omega)
  have hF : jFr (jD ψ r) χ φ := fun a k h => by
    refine f5 a k (fun q => h (Or.inr (Or.inr ?_))) (fun q => h (Or.inl ⟨q.1, by omega, by omega⟩))
    obtain ⟨q1, c, m, q2, q3, q4⟩ := q
    exact ⟨c, m, by omega, by rw [← t21]; exact q3, q4, q1⟩
  have x86 := fk r 86 (by decide)
  have x90 := fk r 90 (by decide)
  have x92 := fk r 92 (by decide)
  have x93 := fk r 93 (by decide)
  have x94 := fk r 94 (by decide)
  have x95 := fk r 95 (by decide)
  have x96 := fk r 96 (by decide)
  have x97 := fk r 97 (by decide)
  have x83 := fk r 83 (by decide)
  have x21 : ∀ c : Nat, φ (r + 11 + 8 * c) 21 = ψ (r + 11 + 8 * c) 21 := fun c => (fk _ 21 (by decide)).trans (t21 c)
  have t93 : χ r 93 = ψ r 93 ∧ χ r 97 = ψ r 97 := by
    rcases t10 with ⟨q1, _, q3⟩ | ⟨q1, _, _, _, q5⟩
    · exact ⟨q1, q3⟩
    · omega
  refine ⟨f0, jFr_tr t1 hF, ⟨by omega, ?_, Or.inl f88, by omega, ?_, fun b hb => ?_, fun c m hc hm => ?_, fun c hc m hm => ?_, fun q => f88, fun q => f89⟩, by omega, fun b hb => ?_, fun k j hk hj hb => ?_, ?_, fun q => ?_, by omega, Or.inl ⟨by omega, by omega⟩, by omega, by omega, Or.inr ⟨by omega, by omega⟩, fun q1 q2 => ⟨by omega, f88⟩⟩
  · rcases f87 with q | ⟨c, q1, q2, _⟩
    · omega
    · omega
  · exact k7 (by omega) (by omega) (by omega) (by omega) (by omega) (by omega) (by omega)
  · rw [fk _ 3 (by decide), fk _ 11 (by decide)]
    by_cases q : b < n
    · obtain ⟨q1, g, q2, q3, q4, q5, q6⟩ := t2 b q
      have h9 := (yb b hb).2
      exact ⟨q1, by omega⟩
    · have e3 : χ (r + 2 + b) 3 = ψ (r + 2 + b) 3 := t1 _ _ (by rintro (h | ⟨b2, h1, h2, h3⟩ | ⟨c, m, h1, h2, h3, h4⟩) <;> omega)
      have e11 : χ (r + 2 + b) 11 = ψ (r + 2 + b) 11 := t1 _ _ (by rintro (h | ⟨b2, h1, h2, h3⟩ | ⟨c, m, h1, h2, h3, h4⟩) <;> omega)
      have h9 := yb b hb
      rw [e3, e11]
      exact ⟨h9.1, by omega⟩
  · rw [x21] at hm
    have h9 := ym c m hc hm
    have h8 := t4 c m hc hm
    have h4 := f6 (r + 13 + 8 * c + m) 44 (Or.inl rfl)
    have h5 := f6 (r + 13 + 8 * c + m) 45 (Or.inr rfl)
    exact ⟨by omega, by omega⟩
  · rw [x21, ← t21] at hm
    rcases f87 with q | ⟨c2, q1, q2, q3⟩
    · omega
    · have e : c = c2 := by omega
      subst e
      have := (q3 m hm).1
      omega
  · obtain ⟨q1, g, q2, q3, q4, q5, q6⟩ := t2 b hb
    rw [fk _ 3 (by decide), fk _ 11 (by decide)]
    exact ⟨g, q2, q3, q4, q5, q6⟩
  · rw [fk _ 3 (by decide)] at hb
    exact t3 k j hk hj ((btc_keys (fun a k hk => fk a k (by omega)) _ _ _).mp hb)
  · exact k7 (by omega) (by omega) (by omega) (by omega) (by omega) (by omega) (by omega)
  · have h9 := tg q
    exact ⟨by omega, by omega, by omega, by omega⟩
theorem opn_bd {ψ : jSt} (hG : jG ψ) (r : Nat) : 0 ≤ opn ψ r ∧ opn ψ r ≤ 60000 := by
  refine ⟨opn_nn ψ r, ?_⟩
  unfold opn
  split
  · omega
  · have h1 := (opc_nn ψ (r + 13 + 8 * (ψ r 87).toNat) (ψ (r + 11 + 8 * (ψ r 87).toNat) 21).toNat).2
    have h2 := (hG (r + 11 + 8 * (ψ r 87).toNat) 21).2
    omega
section P33
variable {xs : Nat → Int32} {L0 : Nat}
theorem m_53 {ψ : jSt} {r : Nat} (hr : jR2 r) (n : Nat) (hn : ψ r 81 = (n : Int)) (hn8 : n ≤ 8) (hS : jS ψ r) (hY : jY ψ r) (h86 : ψ r 86 < 4000) (hG : jG ψ) : JZ Eq xs L0 53 0 ([some (.ref r)] ++ List.replicate 1 none) [] ψ (oV (SEC ψ r n)) := by
  have hrig := jR_rig hr
  have hr' : r = 2 ∨ r = 61 := hr
  have hrl : r < 131 := by omega
  obtain ⟨s81, s83, s84, sB, sC, sM, sD⟩ := id hS
  obtain ⟨y86, y87, y88, y89, yk, yb, ym, yr, yn, yo⟩ := id hY
  have y90 := yk 90 (by decide) (by decide)
  have y91 := yk 91 (by decide) (by decide)
  have y92 := yk 92 (by decide) (by decide)
  have y93 := yk 93 (by decide) (by decide)
  have y94 := yk 94 (by decide) (by decide)
  have y95 := yk 95 (by decide) (by decide)
  have y96 := yk 96 (by decide) (by decide)
  refine JZ_aload_n i_53_0 (by rfl) ?_
  refine JZ_dup i_53_1 rfl ?_
  refine JZ_gB (key := 86) i_53_2 f_53_53 (by assumption) (by rfl) rfl hG (fun u2 v2 => ?_)
  refine JZ_iconst i_53_5 ?_
  refine JZ_iadd i_53_6 ?_
  refine JZ_pB (key := 86) i_53_7 f_53_53 (by assumption) (by rfl) rfl (Or.inl t_4_6) (by rfl) hG (by omega) (fun hG => ?_)
  refine JZ_iconst i_53_10 ?_
  refine JZ_istore_n i_53_11 (by rw [l_53]; decide) (by rfl) ?_
  refine JZ_fg (L' := [some (.ref r), some (.int (jI (((0 : Nat) : Int))))]) ?_ (by repeat (first | exact trivial | refine ⟨rfl, ?_⟩))
  refine JZ_for (σ := Unit) (N := n) (I := fun i _ φ => qA ψ r i φ) (Lf := fun i _ => [some (.ref r), some (.int (jI ((i : Int))))]) ?_ ?_ n 0 () _ (by omega) ?_
  · intro i u φ hi hI hK
    obtain ⟨hG, hA1, hA2, hA3⟩ := id hI
    have e81 : φ r 81 = (n : Int) := by rw [hA3 r 81 (by omega) (by omega)]; exact hn
    have hbar := jR_bar hr (show i < 8 by omega)
    have hbl := jSk_lt hbar
    refine JZ_iload_n i_53_12 (by rfl) ?_
    refine JZ_aload_n i_53_13 (by rfl) ?_
    refine JZ_gB (key := 81) i_53_14 f_53_37 (by assumption) (by rfl) rfl hG (fun u14 v14 => ?_)
    refine JZ_icge (tg := 44) i_53_17 (by decide) (by omega) (by omega) (fun h17 => ?_) (fun h17 => ?_)
    · exfalso; omega
    refine JZ_aload_n i_53_20 (by rfl) ?_
    refine JZ_gR i_53_21 f_53_23 (by assumption) (by rfl) ?_
    refine JZ_iload_n i_53_24 (by rfl) ?_
    refine JZ_aBar (i) i_53_25 hr (by omega) (by omega) ?_
    refine JZ_aload_n i_53_26 (by rfl) ?_
    refine JZ_gR i_53_27 f_53_23 (by assumption) (by rfl) ?_
    refine JZ_iload_n i_53_30 (by rfl) ?_
    refine JZ_aBar (i) i_53_31 hr (by omega) (by omega) ?_
    refine JZ_gB (key := 3) i_53_32 f_53_107 (by assumption) (by rfl) rfl hG (fun u32 v32 => ?_)
    refine JZ_pB (key := 12) i_53_35 f_53_110 (by assumption) (by rfl) rfl (Or.inl t_0_12) (by rfl) hG (by omega) (fun hG => ?_)
    refine JZ_iinc i_53_38 (by rfl) (by rw [l_53]; decide) (by rfl) ?_
    refine JZ_goto (tg := 12) i_53_41 (by decide) ?_
    exact JZ_fg (hK () _ (qA_step hI hG (hA3 _ _ (by omega) (by omega)) rfl)) (by repeat (first | exact trivial | refine ⟨rfl, ?_⟩))
  · intro u ψA hA
    obtain ⟨hG, hA1, hA2, hA3⟩ := id hA
    have ak : ∀ a k, ¬ (k = 86 ∨ k = 12) → ψA a k = ψ a k := fun a k h => hA3 a k (by omega) (by omega)
    have e81 : ψA r 81 = (n : Int) := by rw [ak r 81 (by decide)]; exact hn
    have a83 := ak r 83 (by decide)
    have a87 := ak r 87 (by decide)
    have a88 := ak r 88 (by decide)
    have a89 := ak r 89 (by decide)
    have a90 := ak r 90 (by decide)
    have a92 := ak r 92 (by decide)
    have a93 := ak r 93 (by decide)
    have a96 := ak r 96 (by decide)
    refine JZ_iload_n i_53_12 (by rfl) ?_
    refine JZ_aload_n i_53_13 (by rfl) ?_
    refine JZ_gB (key := 81) i_53_14 f_53_37 (by assumption) (by rfl) rfl hG (fun u14 v14 => ?_)
    refine JZ_icge (tg := 44) i_53_17 (by decide) (by omega) (by omega) (fun h17 => ?_) (fun h17 => ?_)
    · have hAh : ∀ b, b < n → 0 ≤ ψA (r + 2 + b) 3 ∧ ψA (r + 2 + b) 3 ≤ 120 := fun b hb => by rw [ak _ 3 (by decide)]; exact (yb b (by omega)).1
      have hAS : jS ψA r := jS_fr (fun a k hk => ak a k (by omega)) hS
      have h71 : ∀ ψB, qB ψA r n ψB → JZ Eq xs L0 53 71 [some (.ref r), none] [] ψB (oV (SEC ψ r n)) := by
        intro ψB hB
        have hG := hB.1
        have hFB := hB.2.1
        have hnB : ψB r 81 = (n : Int) := by rw [jD_key hFB (by decide)]; exact e81
        have hB94 : ψB r 94 = ψ r 94 := by rw [hB.2.2.2.2.2.1.2.2.2.1]; exact ak r 94 (by decide)
        have hB95 : ψB r 95 = ψ r 95 := by rw [hB.2.2.2.2.2.1.2.2.2.2]; exact ak r 95 (by decide)
        have hB11 : ∀ b, b < n → 0 ≤ ψB (r + 2 + b) 11 ∧ ψB (r + 2 + b) 11 ≤ 38000 := fun b hb => by
          obtain ⟨_, _, _, g, q1, q2, _, q3, _⟩ := hB.2.2.1 b hb
          have h9 := (yb b (by omega)).2
          have h8 := ak (r + 2 + b) 11 (by decide)
          omega
        refine JZ_iconst i_53_71 ?_
        refine JZ_istore_n i_53_72 (by rw [l_53]; decide) (by rfl) ?_
        refine JZ_fg (L' := [some (.ref r), some (.int (jI (((0 : Nat) : Int))))]) ?_ (by repeat (first | exact trivial | refine ⟨rfl, ?_⟩))
        refine JZ_for (σ := Unit) (N := n) (I := fun i _ φ => qC ψB r n i φ) (Lf := fun i _ => [some (.ref r), some (.int (jI ((i : Int))))]) ?_ ?_ n 0 () ψB (by omega) ?_
        · intro i u φ hi hI hK
          obtain ⟨hG, hC1, _, hC94, hC95, _, hC9⟩ := id hI
          have e81 : φ r 81 = (n : Int) := by rw [hC9 r 81 (by omega) (by omega)]; exact hnB
          have hbar := jR_bar hr (show i < 8 by omega)
          have hbl := jSk_lt hbar
          obtain ⟨hq1, hq2, hq3, -⟩ := hC1 i hi
          have hq4 := (hq1 (Nat.le_refl _)).2
          have hq5 := hB11 i hi
          refine JZ_iload_n i_53_73 (by rfl) ?_
          refine JZ_aload_n i_53_74 (by rfl) ?_
          refine JZ_gB (key := 81) i_53_75 f_53_37 (by assumption) (by rfl) rfl hG (fun u75 v75 => ?_)
          refine JZ_icge (tg := 130) i_53_78 (by decide) (by omega) (by omega) (fun h78 => ?_) (fun h78 => ?_)
          · exfalso; omega
          refine JZ_aload_n i_53_81 (by rfl) ?_
          refine JZ_gR i_53_82 f_53_23 (by assumption) (by rfl) ?_
          refine JZ_iload_n i_53_85 (by rfl) ?_
          refine JZ_aBar (i) i_53_86 hr (by omega) (by omega) ?_
          refine JZ_gB (key := 10) i_53_87 f_53_93 (by assumption) (by rfl) rfl hG (fun u87 v87 => ?_)
          refine JZ_ifeq (tg := 124) i_53_90 (by decide) (by omega) (fun h90 => ?_) (fun h90 => ?_)
          · refine JZ_iinc i_53_124 (by rfl) (by rw [l_53]; decide) (by rfl) ?_
            refine JZ_goto (tg := 73) i_53_127 (by decide) ?_
            first
              | exact JZ_fg (hK () _ (qC_skip hI)) (by repeat (first | exact trivial | refine ⟨rfl, ?_⟩))
              | exact JZ_fg (hK () _ (qC_run hr' hI hi h90 h111 hQ121)) (by repeat (first | exact trivial | refine ⟨rfl, ?_⟩))
          refine JZ_aload_n i_53_93 (by rfl) ?_
          refine JZ_gR i_53_94 f_53_23 (by assumption) (by rfl) ?_
          refine JZ_iload_n i_53_97 (by rfl) ?_
          refine JZ_aBar (i) i_53_98 hr (by omega) (by omega) ?_
          refine JZ_gB (key := 3) i_53_99 f_53_107 (by assumption) (by rfl) rfl hG (fun u99 v99 => ?_)
          refine JZ_aload_n i_53_102 (by rfl) ?_
          refine JZ_gR i_53_103 f_53_23 (by assumption) (by rfl) ?_
          refine JZ_iload_n i_53_106 (by rfl) ?_
          refine JZ_aBar (i) i_53_107 hr (by omega) (by omega) ?_
          refine JZ_gB (key := 12) i_53_108 f_53_110 (by assumption) (by rfl) rfl hG (fun u108 v108 => ?_)
          refine JZ_icne (tg := 124) i_53_111 (by decide) (by omega) (by omega) (fun h111 => ?_) (fun h111 => ?_)
          · refine JZ_iinc i_53_124 (by rfl) (by rw [l_53]; decide) (by rfl) ?_
            refine JZ_goto (tg := 73) i_53_127 (by decide) ?_
            first
              | exact JZ_fg (hK () _ (qC_skip hI)) (by repeat (first | exact trivial | refine ⟨rfl, ?_⟩))
              | exact JZ_fg (hK () _ (qC_run hr' hI hi h90 h111 hQ121)) (by repeat (first | exact trivial | refine ⟨rfl, ?_⟩))
          refine JZ_aload_n i_53_114 (by rfl) ?_
          refine JZ_aload_n i_53_115 (by rfl) ?_
          refine JZ_gR i_53_116 f_53_23 (by assumption) (by rfl) ?_
          refine JZ_iload_n i_53_119 (by rfl) ?_
          refine JZ_aBar (i) i_53_120 hr (by omega) (by omega) ?_
          refine JZ_v1V (j := 5) i_53_121 v_53_116 (by decide +kernel) rfl rfl (Nat.le_of_ble_eq_true rfl) (by assumption) (by first | rfl | (simp only [List.all_cons, List.all_nil, g_ok, Bool.and_true, Bool.true_and, Bool.and_eq_true, decide_eq_true_eq] <;> first | assumption | exact ⟨by assumption, by assumption⟩ | exact ⟨by assumption, by assumption, by assumption⟩ | omega)) rfl (m_51 hr n e81 hn8 hbar ⟨hq2, hq3⟩ (by omega) (by omega) (by omega) hG) (fun ψ121 hQ121 => ?_)
          refine JZ_iinc i_53_124 (by rfl) (by rw [l_53]; decide) (by rfl) ?_
          refine JZ_goto (tg := 73) i_53_127 (by decide) ?_
          first
            | exact JZ_fg (hK () _ (qC_skip hI)) (by repeat (first | exact trivial | refine ⟨rfl, ?_⟩))
            | exact JZ_fg (hK () _ (qC_run hr' hI hi h90 h111 hQ121)) (by repeat (first | exact trivial | refine ⟨rfl, ?_⟩))
        · intro u φ hI
          obtain ⟨hG, _, _, _, _, _, hC9⟩ := id hI
          have e81 : φ r 81 = (n : Int) := by rw [hC9 r 81 (by omega) (by omega)]; exact hnB
          have hT := qT_mk hn hA hB hI
          have hFt := hT.2.1
          have e83 : φ r 83 = ψ r 83 := jD_key hFt (by decide)
          have e87 : φ r 87 = ψ r 87 := hT.2.2.2.2.2.1.2.1
          have e91 : φ r 91 = ψ r 91 := hT.2.2.2.2.2.1.2.2
          have hmm : ∀ c : Nat, c < 6 → 0 ≤ φ (r + 11 + 8 * c) 21 ∧ φ (r + 11 + 8 * c) 21 ≤ 6 := fun c hc => by rw [jD_key hFt (by decide)]; exact (sC c hc).1
          refine JZ_iload_n i_53_73 (by rfl) ?_
          refine JZ_aload_n i_53_74 (by rfl) ?_
          refine JZ_gB (key := 81) i_53_75 f_53_37 (by assumption) (by rfl) rfl hG (fun u75 v75 => ?_)
          refine JZ_icge (tg := 130) i_53_78 (by decide) (by omega) (by omega) (fun h78 => ?_) (fun h78 => ?_)
          · refine JZ_aload_n i_53_130 (by rfl) ?_
            refine JZ_gB (key := 87) i_53_131 f_53_15 (by assumption) (by rfl) rfl hG (fun u131 v131 => ?_)
            refine JZ_iconst i_53_134 ?_
            refine JZ_iceq (tg := 160) i_53_135 (by decide) (by omega) (by omega) (fun h135 => ?_) (fun h135 => ?_)
            · refine JZ_vret i_53_160 r_53 ?_
              first
                | exact SEC_fin hn hn8 hS hY h86 hT h135 (by omega) hQ157
                | exact SEC_no hn hn8 hS hY h86 hT (Or.inl h135)
                | exact SEC_no hn hn8 hS hY h86 hT (Or.inr (by omega))
            refine JZ_aload_n i_53_138 (by rfl) ?_
            refine JZ_v0P (j := 0) i_53_139 v_53_119 (by decide +kernel) rfl rfl (Nat.le_of_ble_eq_true rfl) (by assumption) rfl rfl (m_13 hr (by omega) (by omega) hmm hG) (fun x139 hq139 => ?_)
            have hob := opn_bd hG r
            refine JZ_ifne (tg := 160) i_53_142 (by decide) (by omega) (fun h142 => ?_) (fun h142 => ?_)
            · refine JZ_vret i_53_160 r_53 ?_
              first
                | exact SEC_fin hn hn8 hS hY h86 hT h135 (by omega) hQ157
                | exact SEC_no hn hn8 hS hY h86 hT (Or.inl h135)
                | exact SEC_no hn hn8 hS hY h86 hT (Or.inr (by omega))
            obtain ⟨c, hcc⟩ := Int.eq_ofNat_of_zero_le (show 0 ≤ φ r 87 by omega)
            have hc6 : c < 6 := by omega
            have hcue := (jR_cue hr hc6).1
            have e22 : φ (r + 11 + 8 * c) 22 = ψ (r + 11 + 8 * c) 22 := jD_key hFt (by decide)
            have hc22 := (sC c hc6).2
            refine JZ_aload_n i_53_145 (by rfl) ?_
            refine JZ_aload_n i_53_146 (by rfl) ?_
            refine JZ_aload_n i_53_147 (by rfl) ?_
            refine JZ_gB (key := 87) i_53_148 f_53_15 (by assumption) (by rfl) rfl hG (fun u148 v148 => ?_)
            refine JZ_v1A (j := 0) i_53_151 v_53_96 (by decide +kernel) rfl rfl (Nat.le_of_ble_eq_true rfl) (by assumption) rfl (by first | rfl | (simp only [List.all_cons, List.all_nil, g_ok, Bool.and_true, Bool.true_and, Bool.and_eq_true, decide_eq_true_eq] <;> first | assumption | exact ⟨by assumption, by assumption⟩ | exact ⟨by assumption, by assumption, by assumption⟩ | omega)) (m_11 hr c hcc (by omega) (by omega) hG) ?_
            refine JZ_gB (key := 22) i_53_154 f_53_120 (by assumption) (by rfl) rfl hG (fun u154 v154 => ?_)
            refine JZ_v1V (j := 0) i_53_157 v_53_123 (by decide +kernel) rfl rfl (Nat.le_of_ble_eq_true rfl) (by assumption) rfl rfl (m_52 hr (by omega) (by omega) (by omega) hmm hG) (fun ψ157 hQ157 => ?_)
            refine JZ_vret i_53_160 r_53 ?_
            first
              | exact SEC_fin hn hn8 hS hY h86 hT h135 (by omega) hQ157
              | exact SEC_no hn hn8 hS hY h86 hT (Or.inl h135)
              | exact SEC_no hn hn8 hS hY h86 hT (Or.inr (by omega))
          exfalso; omega
        · exact qC_zero hB.1 (fun b hb => ⟨(hB.2.2.1 b hb).1, (hB.2.2.1 b hb).2.1⟩)
      refine JZ_aload_n i_53_44 (by rfl) ?_
      refine JZ_gB (key := 87) i_53_45 f_53_15 (by assumption) (by rfl) rfl hG (fun u45 v45 => ?_)
      refine JZ_iconst i_53_48 ?_
      refine JZ_iceq (tg := 71) i_53_49 (by decide) (by omega) (by omega) (fun h49 => ?_) (fun h49 => ?_)
      · first
          | exact JZ_fg (h71 _ hB68) (by repeat (first | exact trivial | refine ⟨rfl, ?_⟩))
          | exact JZ_fg (h71 _ (qB_skip hG hAh)) (by repeat (first | exact trivial | refine ⟨rfl, ?_⟩))
      refine JZ_aload_n i_53_52 (by rfl) ?_
      refine JZ_gB (key := 88) i_53_53 f_53_56 (by assumption) (by rfl) rfl hG (fun u53 v53 => ?_)
      refine JZ_ifne (tg := 71) i_53_56 (by decide) (by omega) (fun h56 => ?_) (fun h56 => ?_)
      · first
          | exact JZ_fg (h71 _ hB68) (by repeat (first | exact trivial | refine ⟨rfl, ?_⟩))
          | exact JZ_fg (h71 _ (qB_skip hG hAh)) (by repeat (first | exact trivial | refine ⟨rfl, ?_⟩))
      obtain ⟨c, hcc⟩ := Int.eq_ofNat_of_zero_le (show 0 ≤ ψA r 87 by omega)
      have hc6 : c < 6 := by omega
      have hcm := (sC c hc6).1
      obtain ⟨mc, hmc⟩ := Int.eq_ofNat_of_zero_le hcm.1
      have hmA : ψA (r + 11 + 8 * c) 21 = (mc : Int) := by rw [ak _ 21 (by decide)]; exact hmc
      have hcue := (jR_cue hr hc6).1
      have hcl := jSk_lt hcue
      refine JZ_aload_n i_53_59 (by rfl) ?_
      refine JZ_aload_n i_53_60 (by rfl) ?_
      refine JZ_aload_n i_53_61 (by rfl) ?_
      refine JZ_gB (key := 87) i_53_62 f_53_15 (by assumption) (by rfl) rfl hG (fun u62 v62 => ?_)
      refine JZ_v1A (j := 0) i_53_65 v_53_96 (by decide +kernel) rfl rfl (Nat.le_of_ble_eq_true rfl) (by assumption) rfl (by first | rfl | (simp only [List.all_cons, List.all_nil, g_ok, Bool.and_true, Bool.true_and, Bool.and_eq_true, decide_eq_true_eq] <;> first | assumption | exact ⟨by assumption, by assumption⟩ | exact ⟨by assumption, by assumption, by assumption⟩ | omega)) (m_11 hr c hcc (by omega) (by omega) hG) ?_
      refine JZ_v1V (j := 3) i_53_68 v_53_113 (by decide +kernel) rfl rfl (Nat.le_of_ble_eq_true rfl) (by assumption) (by first | rfl | (simp only [List.all_cons, List.all_nil, g_ok, Bool.and_true, Bool.true_and, Bool.and_eq_true, decide_eq_true_eq] <;> first | assumption | exact ⟨by assumption, by assumption⟩ | exact ⟨by assumption, by assumption, by assumption⟩ | omega)) rfl (m_49 hr n e81 hn8 c hc6 (by omega) mc hmA (by omega) hAS (by omega) (fun b hb => ⟨hAh b hb, by rw [ak _ 11 (by decide)]; have h9 := (yb b (by omega)).2; omega⟩) (fun m hm => by rw [ak _ 45 (by decide)]; have h9 := (ym c m hc6 (by omega)).2; omega) (by omega) (by omega) (by omega) (by omega) (by omega) hG) (fun ψ68 hQ68 => ?_)
      have hB68 : qB ψA r n ψ68 := qB_go hQ68 hc6 hcc hmA (by omega) (by omega)
      first
        | exact JZ_fg (h71 _ hB68) (by repeat (first | exact trivial | refine ⟨rfl, ?_⟩))
        | exact JZ_fg (h71 _ (qB_skip hG hAh)) (by repeat (first | exact trivial | refine ⟨rfl, ?_⟩))
    exfalso; omega
  · exact ⟨hG, jU_eq _ _ _ _, fun b hb => absurd hb (Nat.not_lt_zero b), fun a k h1 h2 => by unfold jU; rw [if_neg h1]⟩
end P33
