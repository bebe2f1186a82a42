/-! a second: playSecond -/
theorem opc_mono {ψ φ : jSt} {a : Nat} : ∀ {k : Nat}, (∀ j, j < k → φ (a + j) 44 = 0 → ψ (a + j) 44 = 0) → opc φ a k ≤ opc ψ a k
  | 0, _ => Int.le_refl _
  | k + 1, h => by
    have ih := opc_mono (k := k) (fun j hj => h j (Nat.lt_succ_of_lt hj))
    show opc φ a k + _ ≤ opc ψ a k + _
    by_cases q : φ (a + k) 44 = 0
    · rw [if_pos q, if_pos (h k (Nat.lt_succ_self k) q)]
      omega
    · rw [if_neg q]
      split <;> omega
/-- touching after one bar's way -/
theorem tch_step {φ φ' : jSt} {r n b : Nat} {t : Int} (fk : ∀ x k, (k = 0 ∨ k = 6 ∨ k = 7) → φ' x k = φ x k) (f3n : ∀ x, ¬ x = r + 2 + b → φ' x 3 = φ x 3) (f3 : φ' (r + 2 + b) 3 = t) (hT : ∀ j, j < n → btc φ (r + 2 + b) t (r + 2 + j) → btc φ (r + 2 + b) (φ (r + 2 + b) 3) (r + 2 + j)) :
    ∀ k j, k < n → j < n → btc φ' (r + 2 + k) (φ' (r + 2 + k) 3) (r + 2 + j) → btc φ (r + 2 + k) (φ (r + 2 + k) 3) (r + 2 + j) := by
  have hown : ∀ j, j < n → btc φ' (r + 2 + b) t (r + 2 + j) → btc φ (r + 2 + b) (φ (r + 2 + b) 3) (r + 2 + j) := fun j hj hb2 => by
    refine hT j hj ((btc_own (fun a' k' q1 q2 => ?_)).mp hb2)
    by_cases q3 : k' = 3
    · subst q3; exact f3n a' (by omega)
    · exact fk a' k' (by omega)
  intro k j hk hj hb2
  by_cases qk : k = b
  · subst qk; rw [f3] at hb2; exact hown j hj hb2
  · by_cases qj : j = b
    · subst qj
      have h9 := btc_sym _ _ hb2
      rw [f3] at h9
      exact btc_sym _ _ (hown k hk h9)
    · rw [f3n (r + 2 + k) (by omega)] at hb2
      exact (btc_eq (fk _ 0 (by omega)) (fk _ 0 (by omega)) (fk _ 7 (by omega)) (fk _ 7 (by omega)) (fk _ 6 (by omega)) (fk _ 6 (by omega)) (f3n _ (by omega))).mp hb2
/-- what of a rig a second keeps -/
def jY (ψ : jSt) (r : Nat) : Prop := (0 ≤ ψ r 86 ∧ ψ r 86 ≤ 4000) ∧ (-1 ≤ ψ r 87 ∧ ψ r 87 < ψ r 83) ∧ (ψ r 88 = 0 ∨ ψ r 88 = 1) ∧ (0 ≤ ψ r 89 ∧ ψ r 89 ≤ ψ r 86)
  ∧ (∀ k : Nat, 90 ≤ k → k ≤ 96 → 0 ≤ ψ r k ∧ ψ r k ≤ 8 * ψ r 86)
  ∧ (∀ b : Nat, b < 8 → (0 ≤ ψ (r + 2 + b) 3 ∧ ψ (r + 2 + b) 3 ≤ 120) ∧ (0 ≤ ψ (r + 2 + b) 11 ∧ ψ (r + 2 + b) 11 ≤ 8 * ψ r 86))
  ∧ (∀ c m : Nat, c < 6 → (m : Int) < ψ (r + 11 + 8 * c) 21 → (-1 ≤ ψ (r + 13 + 8 * c + m) 44 ∧ ψ (r + 13 + 8 * c + m) 44 ≤ 2) ∧ (0 ≤ ψ (r + 13 + 8 * c + m) 45 ∧ ψ (r + 13 + 8 * c + m) 45 ≤ 8 * ψ r 86))
  ∧ (∀ c : Nat, ψ r 87 = (c : Int) → ∀ m : Nat, (m : Int) < ψ (r + 11 + 8 * c) 21 → 0 ≤ ψ (r + 13 + 8 * c + m) 44)
  ∧ (ψ r 87 = -1 → ψ r 88 = 0) ∧ (opn ψ r = 0 → ψ r 89 = 0)
/-! its first part -/
def qA (ψ : jSt) (r i : Nat) (φ : jSt) : Prop := jG φ ∧ φ r 86 = ψ r 86 + 1 ∧ (∀ b, b < i → φ (r + 2 + b) 12 = ψ (r + 2 + b) 3) ∧ (∀ a k, ¬ (k = 86 ∧ a = r) → ¬ (k = 12 ∧ r + 2 ≤ a ∧ a < r + 2 + i) → φ a k = ψ a k)
theorem qA_step {ψ φ φ' : jSt} {r i : Nat} {v : Int} (h : qA ψ r i φ) (hG : jG φ') (hv : v = ψ (r + 2 + i) 3) (e : φ' = jU φ (r + 2 + i) 12 v) : qA ψ r (i + 1) φ' := by
  obtain ⟨h0, h1, h2, h3⟩ := h
  subst e
  refine ⟨hG, by rw [jU_nk (by decide)]; exact h1, fun b hb => ?_, fun a k h4 h5 => ?_⟩
  · by_cases q : b = i
    · subst q; rw [jU_eq]; exact hv
    · rw [jU_na (by omega)]; exact h2 b (by omega)
  · rw [← h3 a k h4 (by omega)]
    unfold jU
    rw [if_neg (by omega)]
/-! its second part -/
def qB (ψ : jSt) (r n : Nat) (φ : jSt) : Prop := jG φ ∧ jFr (jD ψ r) ψ φ
  ∧ (∀ b, b < n → 0 ≤ φ (r + 2 + b) 3 ∧ φ (r + 2 + b) 3 ≤ 120 ∧ φ (r + 2 + b) 12 = ψ (r + 2 + b) 12 ∧ ∃ g : Int, 0 ≤ g ∧ g ≤ 6 ∧ (φ (r + 2 + b) 3 = ψ (r + 2 + b) 3 + g ∨ φ (r + 2 + b) 3 = ψ (r + 2 + b) 3 - g) ∧ φ (r + 2 + b) 11 = ψ (r + 2 + b) 11 + g ∧ (g = 0 ∨ (0 ≤ ψ r 87 ∧ ψ r 88 = 0)))
  ∧ (∀ k j, k < n → j < n → btc φ (r + 2 + k) (φ (r + 2 + k) 3) (r + 2 + j) → btc ψ (r + 2 + k) (ψ (r + 2 + k) 3) (r + 2 + j))
  ∧ (∀ c' m' : Nat, c' < 6 → (m' : Int) < ψ (r + 11 + 8 * c') 21 → (φ (r + 13 + 8 * c' + m') 44 = ψ (r + 13 + 8 * c' + m') 44 ∨ (ψ (r + 13 + 8 * c' + m') 44 = 0 ∧ (φ (r + 13 + 8 * c' + m') 44 = 1 ∨ φ (r + 13 + 8 * c' + m') 44 = 2))) ∧ ψ (r + 13 + 8 * c' + m') 45 ≤ φ (r + 13 + 8 * c' + m') 45 ∧ φ (r + 13 + 8 * c' + m') 45 ≤ ψ (r + 13 + 8 * c' + m') 45 + 1)
  ∧ (φ r 86 = ψ r 86 ∧ φ r 87 = ψ r 87 ∧ φ r 91 = ψ r 91 ∧ φ r 94 = ψ r 94 ∧ φ r 95 = ψ r 95) ∧ (ψ r 89 ≤ φ r 89 ∧ φ r 89 ≤ ψ r 89 + 1)
  ∧ (ψ r 90 ≤ φ r 90 ∧ φ r 90 ≤ ψ r 90 + opn ψ r ∧ φ r 90 ≤ ψ r 90 + 6) ∧ (ψ r 92 ≤ φ r 92 ∧ φ r 92 ≤ ψ r 92 + 6) ∧ (ψ r 96 ≤ φ r 96 ∧ φ r 96 ≤ ψ r 96 + 6)
  ∧ ((φ r 93 = ψ r 93 ∧ φ r 88 = ψ r 88 ∧ φ r 97 = ψ r 97) ∨ (φ r 93 = ψ r 93 + 1 ∧ φ r 88 = 1 ∧ 0 ≤ φ r 97 ∧ φ r 97 < (n : Int) ∧ 0 < opn φ r))
  ∧ opn φ r ≤ opn ψ r ∧ (¬ (0 ≤ ψ r 87 ∧ ψ r 88 = 0) → φ = ψ)
theorem opn_nn (ψ : jSt) (r : Nat) : 0 ≤ opn ψ r := by
  unfold opn
  split
  · exact Int.le_refl _
  · exact (opc_nn _ _ _).1
theorem qB_skip {ψ : jSt} {r n : Nat} (hG : jG ψ) (hb : ∀ b, b < n → 0 ≤ ψ (r + 2 + b) 3 ∧ ψ (r + 2 + b) 3 ≤ 120) : qB ψ r n ψ := by
  have ho := opn_nn ψ r
  exact ⟨hG, jFr_rf, fun b h => ⟨(hb b h).1, (hb b h).2, rfl, 0, by omega, by omega, by omega, by omega, Or.inl rfl⟩, fun _ _ _ _ h => h, fun c' m' _ _ => ⟨Or.inl rfl, by omega, by omega⟩, ⟨rfl, rfl, rfl, rfl, rfl⟩, by omega, by omega, by omega, by omega, Or.inl ⟨rfl, rfl, rfl⟩, Int.le_refl _, fun _ => rfl⟩
theorem qB_go {ψ φ : jSt} {r n c mc : Nat} (h : q49 ψ r c n mc φ) (hc : c < 6) (hcr : ψ r 87 = (c : Int)) (hmc : ψ (r + 11 + 8 * c) 21 = (mc : Int)) (hm6 : mc ≤ 6) (h88 : ψ r 88 = 0) : qB ψ r n φ := by
  obtain ⟨m, ψ1, hm, hψ1, hG, hF, hB, hT, hM, ⟨r86, r87, r89, r91, r94, r95⟩, r85, r90, r92, r96, r10⟩ := h
  have f89 : ψ1 r 89 = ψ r 89 + 1 := by rw [hψ1]; simp [jU]
  have f89n : ∀ x, ¬ x = r → ψ1 x 89 = ψ x 89 := fun x hx => by rw [hψ1]; simp [jU, hx]
  have f85 : ψ1 r 85 = ψ r 84 := by rw [hψ1]; simp [jU]
  have f85n : ∀ x, ¬ x = r → ψ1 x 85 = ψ x 85 := fun x hx => by rw [hψ1]; simp [jU, hx]
  have fo : ∀ x k, ¬ k = 89 → ¬ k = 85 → ψ1 x k = ψ x k := fun x k h89 h85 => by rw [hψ1]; simp [jU, h89, h85]
  have fk : ∀ x k, ¬ (k = 89 ∨ k = 85) → ψ1 x k = ψ x k := fun x k hk => fo x k (by omega) (by omega)
  have hF0 : jFr (jD ψ r) ψ ψ1 := by rw [hψ1]; exact jFr_up (jFr_up jFr_rf (Or.inl ⟨rfl, by decide, by decide⟩)) (Or.inl ⟨rfl, by decide, by decide⟩)
  have hD := jD_eq hF0
  have hF9 := hF
  rw [hD] at hF
  have eopn : opn ψ r = opc ψ (r + 13 + 8 * c) mc := opn_at hcr hmc
  have eopf : opn φ r = opc φ (r + 13 + 8 * c) mc := opn_at (by rw [r87, fk r 87 (by decide)]; exact hcr) (by rw [jD_key hF9 (a := r + 11 + 8 * c) (k := 21) (by decide), fk _ 21 (by decide)]; exact hmc)
  have eo1 : opc ψ1 (r + 13 + 8 * c) m = opc ψ (r + 13 + 8 * c) m := opc_eq (fun j _ => fk _ 44 (by decide))
  have eo2 : opc ψ (r + 13 + 8 * c) m ≤ opc ψ (r + 13 + 8 * c) mc := opc_le hm
  have eo3 := opc_nn ψ (r + 13 + 8 * c) m
  rw [eo1] at r90
  have g86 := fk r 86 (by decide)
  have g87 := fk r 87 (by decide)
  have g88 := fk r 88 (by decide)
  have g90 := fk r 90 (by decide)
  have g91 := fk r 91 (by decide)
  have g92 := fk r 92 (by decide)
  have g93 := fk r 93 (by decide)
  have g94 := fk r 94 (by decide)
  have g95 := fk r 95 (by decide)
  have g96 := fk r 96 (by decide)
  have g97 := fk r 97 (by decide)
  have hle : opn φ r ≤ opn ψ r := by
    rw [eopn, eopf]
    refine opc_mono fun j hj q => ?_
    have h9 := (hM c j hc (by rw [fk _ 21 (by decide)]; omega)).1
    rw [fk _ 44 (by decide)] at h9
    omega
  refine ⟨hG, jFr_tr hF0 hF, fun b hb => ?_, fun k j hk hj hb => ?_, fun c' m' hc' hm' => ?_, ⟨by omega, by omega, by omega, by omega, by omega⟩, by omega, by omega, by omega, by omega, ?_, hle, fun q => absurd ⟨by omega, h88⟩ q⟩
  · obtain ⟨k1, k2, k3, g, k4, k5, k6, k7, k8⟩ := hB b hb
    rw [fk _ 3 (by decide)] at k6
    rw [fk _ 11 (by decide)] at k7
    rw [fk _ 12 (by decide)] at k3
    exact ⟨k1, k2, k3, g, k4, k5, k6, k7, Or.inr ⟨by omega, h88⟩⟩
  · have h9 := hT k j hk hj hb
    rw [fk _ 3 (by decide)] at h9
    exact (btc_keys (fun a k hk => fk a k (by omega)) _ _ _).mp h9
  · obtain ⟨k1, k2, k3, -⟩ := hM c' m' hc' (by rw [fk _ 21 (by decide)]; exact hm')
    rw [fk _ 44 (by decide)] at k1
    rw [fk _ 45 (by decide)] at k2 k3
    exact ⟨by omega, k2, k3⟩
  · rcases r10 with ⟨q1, q2, q3⟩ | ⟨q1, q2, q3, q4, m', q5, q6⟩
    · exact Or.inl ⟨by omega, by omega, by omega⟩
    · exact Or.inr ⟨by omega, q2, q3, q4, by rw [eopf]; exact opc_pos q5 q6⟩
/-! its third part -/
def nbk (ψ : jSt) (r : Nat) : Nat → Int
  | 0 => 0
  | k + 1 => nbk ψ r k + (if ψ (r + 2 + k) 10 = 0 then 0 else 1)
theorem nbk_eq {ψ φ : jSt} {r : Nat} (h : ∀ a, φ a 10 = ψ a 10) : ∀ k, nbk φ r k = nbk ψ r k
  | 0 => rfl
  | k + 1 => by
    show nbk φ r k + _ = nbk ψ r k + _
    rw [nbk_eq h k, h]
def qC (ψ : jSt) (r n i : Nat) (φ : jSt) : Prop := jG φ ∧ (∀ b, b < n → (i ≤ b → φ (r + 2 + b) 3 = ψ (r + 2 + b) 3 ∧ φ (r + 2 + b) 11 = ψ (r + 2 + b) 11) ∧ 0 ≤ φ (r + 2 + b) 3 ∧ φ (r + 2 + b) 3 ≤ 120 ∧ ∃ g : Int, 0 ≤ g ∧ g ≤ 8 ∧ (φ (r + 2 + b) 3 = ψ (r + 2 + b) 3 + g ∨ φ (r + 2 + b) 3 = ψ (r + 2 + b) 3 - g) ∧ φ (r + 2 + b) 11 = ψ (r + 2 + b) 11 + g ∧ (g = 0 ∨ (¬ ψ (r + 2 + b) 10 = 0 ∧ ψ (r + 2 + b) 3 = ψ (r + 2 + b) 12)))
  ∧ (∀ k j, k < n → j < n → btc φ (r + 2 + k) (φ (r + 2 + k) 3) (r + 2 + j) → btc ψ (r + 2 + k) (ψ (r + 2 + k) 3) (r + 2 + j))
  ∧ (ψ r 94 ≤ φ r 94 ∧ φ r 94 ≤ ψ r 94 + i) ∧ (ψ r 95 ≤ φ r 95 ∧ φ r 95 ≤ ψ r 95 + i) ∧ φ r 94 + φ r 95 ≤ ψ r 94 + ψ r 95 + 2 * nbk ψ r i
  ∧ (∀ a k, ¬ ((k = 3 ∨ k = 11) ∧ r + 2 ≤ a ∧ a < r + 2 + n) → ¬ (a = r ∧ (k = 94 ∨ k = 95)) → φ a k = ψ a k)
theorem qC_zero {ψ : jSt} {r n : Nat} (hG : jG ψ) (hb : ∀ b, b < n → 0 ≤ ψ (r + 2 + b) 3 ∧ ψ (r + 2 + b) 3 ≤ 120) : qC ψ r n 0 ψ :=
  ⟨hG, fun b h => ⟨fun _ => ⟨rfl, rfl⟩, (hb b h).1, (hb b h).2, 0, by omega, by omega, by omega, by omega, Or.inl rfl⟩, fun _ _ _ _ h => h, by omega, by omega, by
    show _ ≤ _ + 2 * 0
    omega, fun _ _ _ _ => rfl⟩
theorem qC_skip {ψ φ : jSt} {r n i : Nat} (h : qC ψ r n i φ) : qC ψ r n (i + 1) φ := by
  obtain ⟨h0, h1, h2, h3, h4, h5, h6⟩ := h
  refine ⟨h0, fun b hb => ⟨fun q => (h1 b hb).1 (by omega), (h1 b hb).2⟩, h2, by omega, by omega, ?_, h6⟩
  show _ ≤ _ + 2 * (nbk ψ r i + _)
  split <;> omega
theorem qC_run {ψ φ φ' : jSt} {r n i : Nat} (hr : r = 2 ∨ r = 61) (h : qC ψ r n i φ) (hi : i < n) (hbk : ¬ φ (r + 2 + i) 10 = 0) (hst : φ (r + 2 + i) 3 = φ (r + 2 + i) 12) (h9 : q51 φ r (r + 2 + i) n φ') : qC ψ r n (i + 1) φ' := by
  obtain ⟨h0, h1, h2, h3, h4, h5, h6⟩ := h
  obtain ⟨hG, g, t, d, e, g0, g8, gt, t0, t1, hd, he, hT, hφ⟩ := h9
  have f11 : φ' (r + 2 + i) 11 = φ (r + 2 + i) 11 + g := by rw [hφ]; simp [jU]
  have f11n : ∀ x, ¬ x = (r + 2 + i) → φ' x 11 = φ x 11 := fun x hx => by rw [hφ]; simp [jU, hx]
  have f3 : φ' (r + 2 + i) 3 = t := by rw [hφ]; simp [jU]
  have f3n : ∀ x, ¬ x = (r + 2 + i) → φ' x 3 = φ x 3 := fun x hx => by rw [hφ]; simp [jU, hx]
  have f94 : φ' r 94 = φ r 94 + d := by rw [hφ]; simp [jU]
  have f94n : ∀ x, ¬ x = r → φ' x 94 = φ x 94 := fun x hx => by rw [hφ]; simp [jU, hx]
  have f95 : φ' r 95 = φ r 95 + e := by rw [hφ]; simp [jU]
  have f95n : ∀ x, ¬ x = r → φ' x 95 = φ x 95 := fun x hx => by rw [hφ]; simp [jU, hx]
  have fo : ∀ x k, ¬ k = 11 → ¬ k = 3 → ¬ k = 94 → ¬ k = 95 → φ' x k = φ x k := fun x k h11 h3 h94 h95 => by rw [hφ]; simp [jU, h11, h3, h94, h95]
  have f10 := h6 (r + 2 + i) 10 (by omega) (by omega)
  have f12 := h6 (r + 2 + i) 12 (by omega) (by omega)
  obtain ⟨hi1, hi2, hi3, -⟩ := h1 i hi
  obtain ⟨hi4, hi5⟩ := hi1 (Nat.le_refl _)
  refine ⟨hG, fun b hb => ?_, fun k j hk hj hb => h2 k j hk hj (tch_step (fun x k hk => fo x k (by omega) (by omega) (by omega) (by omega)) f3n f3 hT k j hk hj hb), by omega, by omega, ?_, fun a k k1 k2 => ?_⟩
  · by_cases q : b = i
    · subst q
      refine ⟨fun q => absurd q (by omega), by omega, by omega, g, g0, g8, ?_, by rw [f11, hi5], Or.inr ⟨by rw [← f10]; exact hbk, by rw [← hi4, hst, f12]⟩⟩
      rw [f3, ← hi4]
      exact gt
    · rw [f3n _ (by omega), f11n _ (by omega)]
      exact ⟨fun q2 => (h1 b hb).1 (by omega), (h1 b hb).2⟩
  · rw [f94, f95]
    show _ ≤ _ + 2 * (nbk ψ r i + _)
    rw [if_neg (by rw [← f10]; exact hbk)]
    omega
  · rw [← h6 a k k1 k2]
    by_cases q3 : k = 3
    · subst q3; exact f3n a (by omega)
    · by_cases q11 : k = 11
      · subst q11; exact f11n a (by omega)
      · by_cases q94 : k = 94
        · subst q94; exact f94n a (by omega)
        · by_cases q95 : k = 95
          · subst q95; exact f95n a (by omega)
          · exact fo a k (by omega) (by omega) (by omega) (by omega)
/-! the whole second -/
def SEC (ψ : jSt) (r n : Nat) (φ : jSt) : Prop := jG φ ∧ jFr (jD ψ r) ψ φ ∧ jY φ r ∧ φ r 86 = ψ r 86 + 1
  ∧ (∀ b, b < n → ∃ g : Int, 0 ≤ g ∧ g ≤ 8 ∧ (φ (r + 2 + b) 3 = ψ (r + 2 + b) 3 + g ∨ φ (r + 2 + b) 3 = ψ (r + 2 + b) 3 - g) ∧ φ (r + 2 + b) 11 = ψ (r + 2 + b) 11 + g ∧ (ψ (r + 2 + b) 10 = 0 → g ≤ 6 ∧ (g = 0 ∨ (0 ≤ ψ r 87 ∧ ψ r 88 = 0))))
  ∧ (∀ k j, k < n → j < n → btc φ (r + 2 + k) (φ (r + 2 + k) 3) (r + 2 + j) → btc ψ (r + 2 + k) (ψ (r + 2 + k) 3) (r + 2 + j))
  ∧ (∀ k : Nat, 90 ≤ k → k ≤ 96 → ψ r k ≤ φ r k)
  ∧ (¬ (0 ≤ ψ r 87 ∧ ψ r 88 = 0) → φ r 90 = ψ r 90 ∧ φ r 92 = ψ r 92 ∧ φ r 93 = ψ r 93 ∧ φ r 96 = ψ r 96)
  ∧ φ r 90 ≤ ψ r 90 + opn ψ r
  ∧ ((φ r 93 = ψ r 93 ∧ φ r 97 = ψ r 97) ∨ (φ r 93 = ψ r 93 + 1 ∧ φ r 88 = 1 ∧ 0 ≤ φ r 97 ∧ φ r 97 < (n : Int)))
  ∧ φ r 94 + φ r 95 ≤ ψ r 94 + ψ r 95 + 2 * nbk ψ r n ∧ φ r 95 ≤ ψ r 95 + n
  ∧ (φ r 91 = ψ r 91 ∨ (φ r 91 = ψ r 91 + 1 ∧ 0 ≤ ψ r 87)) ∧ (opn ψ r = 0 → 0 ≤ ψ r 87 → φ r 91 = ψ r 91 + 1 ∧ φ r 88 = 0)
