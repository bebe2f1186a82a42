/-! a second, its first part: what holds of a rig, and the moves -/
/-- what a second may change of the rig r: of bars and moves, those alone that are told -/
def jD (ψ : jSt) (r a k : Nat) : Prop := (a = r ∧ 85 ≤ k ∧ k ≤ 97) ∨ (∃ b : Nat, (b : Int) < ψ r 81 ∧ a = r + 2 + b ∧ (k = 3 ∨ k = 11 ∨ k = 12)) ∨ (∃ c m : Nat, (c : Int) < ψ r 83 ∧ (m : Int) < ψ (r + 11 + 8 * c) 21 ∧ a = r + 13 + 8 * c + m ∧ (k = 44 ∨ k = 45))
def jFr (D : Nat → Nat → Prop) (ψ φ : jSt) : Prop := ∀ a k, ¬ D a k → φ a k = ψ a k
theorem jFr_rf {D : Nat → Nat → Prop} {ψ : jSt} : jFr D ψ ψ := fun _ _ _ => rfl
theorem jFr_tr {D : Nat → Nat → Prop} {ψ φ χ : jSt} (h1 : jFr D ψ φ) (h2 : jFr D φ χ) : jFr D ψ χ := fun a k h => (h2 a k h).trans (h1 a k h)
theorem jFr_up {D : Nat → Nat → Prop} {ψ φ : jSt} {a k : Nat} {v : Int} (h : jFr D ψ φ) (hd : D a k) : jFr D ψ (jU φ a k v) := fun a' k' hk => by
  by_cases q : k' = k ∧ a' = a
  · obtain ⟨rfl, rfl⟩ := q
    exact absurd hd hk
  · unfold jU
    rw [if_neg q]
    exact h a' k' hk
theorem jD_key {ψ φ : jSt} {r a k : Nat} (h : jFr (jD ψ r) ψ φ) (hk : ¬ (k = 3 ∨ k = 11 ∨ k = 12 ∨ k = 44 ∨ k = 45 ∨ (85 ≤ k ∧ k ≤ 97))) : φ a k = ψ a k := h a k (by
  rintro (q | ⟨b, h1, h2, h3⟩ | ⟨c, m, h1, h2, h3, h4⟩) <;> omega)
theorem jD_eq {ψ φ : jSt} {r : Nat} (h : jFr (jD ψ r) ψ φ) : jD φ r = jD ψ r := by
  funext a k
  unfold jD
  rw [jD_key h (a := r) (k := 81) (by decide), jD_key h (a := r) (k := 83) (by decide)]
  have e : ∀ c : Nat, φ (r + 11 + 8 * c) 21 = ψ (r + 11 + 8 * c) 21 := fun c => jD_key h (by decide)
  simp only [e]
/-- what of a rig a second never changes -/
def jsB (ψ : jSt) (a : Nat) (b : Nat) : Prop := ψ a 0 = (b : Int) ∧ (ψ a 1 = 0 ∨ ψ a 1 = 1) ∧ (0 ≤ ψ a 2 ∧ ψ a 2 ≤ 300) ∧ (0 ≤ ψ a 4 ∧ ψ a 4 ≤ 300) ∧ (0 ≤ ψ a 5 ∧ ψ a 5 ≤ 300) ∧ (0 ≤ ψ a 6 ∧ ψ a 6 ≤ 60) ∧ (0 ≤ ψ a 7 ∧ ψ a 7 ≤ 2) ∧ (ψ a 8 = 0 ∨ ψ a 8 = 1) ∧ (ψ a 9 = 0 ∨ ψ a 9 = 1) ∧ (ψ a 10 = 0 ∨ ψ a 10 = 1)
def jsM (ψ : jSt) (a : Nat) (n : Int) : Prop := 0 ≤ ψ a 40 ∧ ψ a 40 < n ∧ 0 ≤ ψ a 41 ∧ ψ a 41 ≤ 120 ∧ 1 ≤ ψ a 42 ∧ ψ a 42 ≤ 6 ∧ 0 ≤ ψ a 43 ∧ ψ a 43 ≤ 20
def jS (ψ : jSt) (r : Nat) : Prop := (0 ≤ ψ r 81 ∧ ψ r 81 ≤ 8) ∧ (0 ≤ ψ r 83 ∧ ψ r 83 ≤ 6) ∧ (0 ≤ ψ r 84 ∧ ψ r 84 ≤ 5)
  ∧ (∀ b : Nat, b < 8 → jsB ψ (r + 2 + b) b)
  ∧ (∀ c : Nat, c < 6 → (0 ≤ ψ (r + 11 + 8 * c) 21 ∧ ψ (r + 11 + 8 * c) 21 ≤ 6) ∧ (-1 ≤ ψ (r + 11 + 8 * c) 22 ∧ ψ (r + 11 + 8 * c) 22 ≤ 5))
  ∧ (∀ c m : Nat, c < 6 → (m : Int) < ψ (r + 11 + 8 * c) 21 → jsM ψ (r + 13 + 8 * c + m) (ψ r 81))
  ∧ (∀ c m m' : Nat, c < 6 → (m : Int) < ψ (r + 11 + 8 * c) 21 → (m' : Int) < ψ (r + 11 + 8 * c) 21 → ψ (r + 13 + 8 * c + m) 40 = ψ (r + 13 + 8 * c + m') 40 → m = m')
theorem jS_fr {ψ φ : jSt} {r : Nat} (h : ∀ a k, ¬ (k = 3 ∨ k = 11 ∨ k = 12 ∨ k = 44 ∨ k = 45 ∨ (85 ≤ k ∧ k ≤ 97)) → φ a k = ψ a k) (hS : jS ψ r) : jS φ r := by
  unfold jS jsB jsM at *
  have e0 : ∀ a, φ a 0 = ψ a 0 := fun a => h a 0 (by decide)
  have e1 : ∀ a, φ a 1 = ψ a 1 := fun a => h a 1 (by decide)
  have e2 : ∀ a, φ a 2 = ψ a 2 := fun a => h a 2 (by decide)
  have e4 : ∀ a, φ a 4 = ψ a 4 := fun a => h a 4 (by decide)
  have e5 : ∀ a, φ a 5 = ψ a 5 := fun a => h a 5 (by decide)
  have e6 : ∀ a, φ a 6 = ψ a 6 := fun a => h a 6 (by decide)
  have e7 : ∀ a, φ a 7 = ψ a 7 := fun a => h a 7 (by decide)
  have e8 : ∀ a, φ a 8 = ψ a 8 := fun a => h a 8 (by decide)
  have e9 : ∀ a, φ a 9 = ψ a 9 := fun a => h a 9 (by decide)
  have e10 : ∀ a, φ a 10 = ψ a 10 := fun a => h a 10 (by decide)
  have e21 : ∀ a, φ a 21 = ψ a 21 := fun a => h a 21 (by decide)
  have e22 : ∀ a, φ a 22 = ψ a 22 := fun a => h a 22 (by decide)
  have e40 : ∀ a, φ a 40 = ψ a 40 := fun a => h a 40 (by decide)
  have e41 : ∀ a, φ a 41 = ψ a 41 := fun a => h a 41 (by decide)
  have e42 : ∀ a, φ a 42 = ψ a 42 := fun a => h a 42 (by decide)
  have e43 : ∀ a, φ a 43 = ψ a 43 := fun a => h a 43 (by decide)
  have e81 : ∀ a, φ a 81 = ψ a 81 := fun a => h a 81 (by decide)
  have e83 : ∀ a, φ a 83 = ψ a 83 := fun a => h a 83 (by decide)
  have e84 : ∀ a, φ a 84 = ψ a 84 := fun a => h a 84 (by decide)
  simp only [e0, e1, e2, e4, e5, e6, e7, e8, e9, e10, e21, e22, e40, e41, e42, e43, e81, e83, e84]
  exact hS
theorem btc_keys {ψ φ : jSt} (h : ∀ a k, (k = 0 ∨ k = 3 ∨ k = 6 ∨ k = 7) → φ a k = ψ a k) (x : Nat) (t : Int) (z : Nat) : btc φ x t z ↔ btc ψ x t z :=
  btc_eq (h _ _ (by omega)) (h _ _ (by omega)) (h _ _ (by omega)) (h _ _ (by omega)) (h _ _ (by omega)) (h _ _ (by omega)) (h _ _ (by omega))
theorem btc_sym {φ : jSt} (x z : Nat) (h : btc φ x (φ x 3) z) : btc φ z (φ z 3) x := by
  unfold btc at *
  omega
/-! the moves of a second -/
def pmB (ψ φ : jSt) (r c m b : Nat) : Prop := 0 ≤ φ (r + 2 + b) 3 ∧ φ (r + 2 + b) 3 ≤ 120 ∧ φ (r + 2 + b) 12 = ψ (r + 2 + b) 12 ∧ ∃ g : Int, 0 ≤ g ∧ g ≤ 6 ∧ (φ (r + 2 + b) 3 = ψ (r + 2 + b) 3 + g ∨ φ (r + 2 + b) 3 = ψ (r + 2 + b) 3 - g) ∧ φ (r + 2 + b) 11 = ψ (r + 2 + b) 11 + g ∧ (g = 0 ∨ ∃ m' : Nat, m' < m ∧ ψ (r + 13 + 8 * c + m') 40 = (b : Int))
def pmM (ψ φ : jSt) (r c m c' m' : Nat) : Prop := (φ (r + 13 + 8 * c' + m') 44 = ψ (r + 13 + 8 * c' + m') 44 ∨ (c' = c ∧ m' < m ∧ ψ (r + 13 + 8 * c' + m') 44 = 0 ∧ (φ (r + 13 + 8 * c' + m') 44 = 1 ∨ φ (r + 13 + 8 * c' + m') 44 = 2)))
  ∧ ψ (r + 13 + 8 * c' + m') 45 ≤ φ (r + 13 + 8 * c' + m') 45 ∧ φ (r + 13 + 8 * c' + m') 45 ≤ ψ (r + 13 + 8 * c' + m') 45 + 1 ∧ (¬ c' = c ∨ m ≤ m' → φ (r + 13 + 8 * c' + m') 45 = ψ (r + 13 + 8 * c' + m') 45)
def pmR (ψ φ : jSt) (r c n mc m : Nat) : Prop := (φ r 86 = ψ r 86 ∧ φ r 87 = ψ r 87 ∧ φ r 89 = ψ r 89 ∧ φ r 91 = ψ r 91 ∧ φ r 94 = ψ r 94 ∧ φ r 95 = ψ r 95) ∧ (ψ r 85 - m ≤ φ r 85 ∧ φ r 85 ≤ ψ r 85) ∧ (ψ r 90 ≤ φ r 90 ∧ φ r 90 ≤ ψ r 90 + opc ψ (r + 13 + 8 * c) m) ∧ (ψ r 92 ≤ φ r 92 ∧ φ r 92 ≤ ψ r 92 + m) ∧ (ψ r 96 ≤ φ r 96 ∧ φ r 96 ≤ ψ r 96 + m)
  ∧ ((φ r 93 = ψ r 93 ∧ φ r 88 = ψ r 88 ∧ φ r 97 = ψ r 97) ∨ (φ r 93 = ψ r 93 + 1 ∧ φ r 88 = 1 ∧ 0 ≤ φ r 97 ∧ φ r 97 < (n : Int) ∧ ∃ m' : Nat, m' < mc ∧ φ (r + 13 + 8 * c + m') 44 = 0))
def PM (ψ : jSt) (r c n mc m : Nat) (φ : jSt) : Prop := jG φ ∧ jFr (jD ψ r) ψ φ ∧ (∀ b, b < n → pmB ψ φ r c m b)
  ∧ (∀ k j, k < n → j < n → btc φ (r + 2 + k) (φ (r + 2 + k) 3) (r + 2 + j) → btc ψ (r + 2 + k) (ψ (r + 2 + k) 3) (r + 2 + j))
  ∧ (∀ c' m' : Nat, c' < 6 → (m' : Int) < ψ (r + 11 + 8 * c') 21 → pmM ψ φ r c m c' m') ∧ pmR ψ φ r c n mc m
theorem pmB_tr {ψ φ φ' : jSt} {r c m m2 b : Nat} (hm : m ≤ m2) (e3 : φ' (r + 2 + b) 3 = φ (r + 2 + b) 3) (e11 : φ' (r + 2 + b) 11 = φ (r + 2 + b) 11) (e12 : φ' (r + 2 + b) 12 = φ (r + 2 + b) 12) (h : pmB ψ φ r c m b) : pmB ψ φ' r c m2 b := by
  unfold pmB at *
  rw [e3, e11, e12]
  obtain ⟨h1, h2, h3, g, h4, h5, h6, h7, h8⟩ := h
  refine ⟨h1, h2, h3, g, h4, h5, h6, h7, ?_⟩
  rcases h8 with h8 | ⟨m', h8, h9⟩
  · exact Or.inl h8
  · exact Or.inr ⟨m', by omega, h9⟩
theorem pmM_tr {ψ φ φ' : jSt} {r c m m2 c' m' : Nat} (hm : m ≤ m2) (e44 : φ' (r + 13 + 8 * c' + m') 44 = φ (r + 13 + 8 * c' + m') 44) (e45 : φ' (r + 13 + 8 * c' + m') 45 = φ (r + 13 + 8 * c' + m') 45) (h : pmM ψ φ r c m c' m') : pmM ψ φ' r c m2 c' m' := by
  unfold pmM at *
  rw [e44, e45]
  obtain ⟨h1, h2, h3, h4⟩ := h
  exact ⟨by omega, h2, h3, fun q => h4 (by omega)⟩
theorem PM_skip {ψ φ : jSt} {r c n mc m : Nat} (h : PM ψ r c n mc m φ) : PM ψ r c n mc (m + 1) φ := by
  obtain ⟨h0, h1, h2, h3, h4, h5, h6, h7, h8, h9, h10⟩ := h
  have ho := opc_step ψ (r + 13 + 8 * c) m
  exact ⟨h0, h1, fun b hb => pmB_tr (Nat.le_succ m) rfl rfl rfl (h2 b hb), h3, fun c' m' hc hm => pmM_tr (Nat.le_succ m) rfl rfl (h4 c' m' hc hm), h5, by omega, by omega, by omega, by omega, h10⟩
theorem mv_ne {r c m c' m' : Nat} (hc : c < 6) (hm : m < 6) (hc' : c' < 6) (hm' : m' < 6) (h : ¬ (c' = c ∧ m' = m)) : ¬ r + 13 + 8 * c' + m' = r + 13 + 8 * c + m := by omega
theorem PM_ref {ψ φ φ' : jSt} {r c n mc m : Nat} (hr : r = 2 ∨ r = 61) (h : PM ψ r c n mc m φ) (hc : c < 6) (hcn : (c : Int) < ψ r 83) (hmc : ψ (r + 11 + 8 * c) 21 = (mc : Int)) (hm : m < mc) (hm6 : mc ≤ 6) (h0s : ψ (r + 13 + 8 * c + m) 44 = 0) (hG : jG φ') (hS6 : ∀ c' : Nat, c' < 6 → ψ (r + 11 + 8 * c') 21 ≤ 6) (h88 : φ r 88 = 0) (e : φ' = jU (jU (φ) (r + 13 + 8 * c + m) 44 (2)) r 92 (φ r 92 + 1)) : PM ψ r c n mc (m + 1) φ' := by
  obtain ⟨_, h1, h2, h3, h4, ⟨r86, r87, r89, r91, r94, r95⟩, h6, h7, h8, h9, h10⟩ := h
  have ho := opc_step ψ (r + 13 + 8 * c) m
  have f44 : φ' (r + 13 + 8 * c + m) 44 = 2 := by rw [e]; simp [jU]
  have f44n : ∀ x, ¬ x = (r + 13 + 8 * c + m) → φ' x 44 = φ x 44 := fun x hx => by rw [e]; simp [jU, hx]
  have f92 : φ' r 92 = φ r 92 + 1 := by rw [e]; simp [jU]
  have f92n : ∀ x, ¬ x = r → φ' x 92 = φ x 92 := fun x hx => by rw [e]; simp [jU, hx]
  have fo : ∀ x k, ¬ k = 44 → ¬ k = 92 → φ' x k = φ x k := fun x k h44 h92 => by rw [e]; simp [jU, h44, h92]
  refine ⟨hG, by rw [e]; exact jFr_up (jFr_up (h1) (Or.inr (Or.inr ⟨c, m, hcn, by omega, rfl, by omega⟩))) (Or.inl ⟨rfl, by decide, by decide⟩), ?_, ?_, ?_, ?_⟩
  · exact fun b hb => pmB_tr (Nat.le_succ m) (fo _ 3 (by decide) (by decide)) (fo _ 11 (by decide) (by decide)) (fo _ 12 (by decide) (by decide)) (h2 b hb)
  · intro k j hk hj hb
    have fk : ∀ x k, (k = 0 ∨ k = 3 ∨ k = 6 ∨ k = 7) → φ' x k = φ x k := fun x k hk => fo x k (by omega) (by omega)
    rw [fk _ 3 (by decide)] at hb
    exact h3 k j hk hj ((btc_keys fk _ _ _).mp hb)
  · intro c' m' hc' hm'
    have hm9 := h4 c' m' hc' hm'
    have hm6' := hS6 c' hc'
    by_cases q : c' = c ∧ m' = m
    · obtain ⟨rfl, rfl⟩ := q
      unfold pmM at *
      obtain ⟨h1, h2, h3, h5⟩ := hm9
      have e45 := fo (r + 13 + 8 * c' + m') 45 (by decide) (by decide)
      exact ⟨by omega, by omega, by omega, fun q => by omega⟩
    · have hne := mv_ne hc (by omega) hc' (by omega) q (r := r)
      exact pmM_tr (Nat.le_succ m) (f44n _ hne) (fo _ 45 (by decide) (by decide)) hm9
  · have g85 := fo r 85 (by decide) (by decide)
    have g86 := fo r 86 (by decide) (by decide)
    have g87 := fo r 87 (by decide) (by decide)
    have g88 := fo r 88 (by decide) (by decide)
    have g89 := fo r 89 (by decide) (by decide)
    have g90 := fo r 90 (by decide) (by decide)
    have g91 := fo r 91 (by decide) (by decide)
    have g93 := fo r 93 (by decide) (by decide)
    have g94 := fo r 94 (by decide) (by decide)
    have g95 := fo r 95 (by decide) (by decide)
    have g96 := fo r 96 (by decide) (by decide)
    have g97 := fo r 97 (by decide) (by decide)
    refine ⟨⟨by omega, by omega, by omega, by omega, by omega, by omega⟩, by omega, ?_, by omega, by omega, ?_⟩
    · omega
    · rcases h10 with q | ⟨q1, q2, q3, q4, m9, q5, q6⟩
      · exact Or.inl (by omega)
      · exact absurd q2 (by omega)
theorem PM_late {ψ φ φ' : jSt} {r c n mc m : Nat} (hr : r = 2 ∨ r = 61) (h : PM ψ r c n mc m φ) (hc : c < 6) (hcn : (c : Int) < ψ r 83) (hmc : ψ (r + 11 + 8 * c) 21 = (mc : Int)) (hm : m < mc) (hm6 : mc ≤ 6) (h0s : ψ (r + 13 + 8 * c + m) 44 = 0) (hG : jG φ') (hS6 : ∀ c' : Nat, c' < 6 → ψ (r + 11 + 8 * c') 21 ≤ 6) (h88 : φ r 88 = 0) (e : φ' = jU (jU (φ) (r + 13 + 8 * c + m) 45 (φ (r + 13 + 8 * c + m) 45 + 1)) r 96 (φ r 96 + 1)) : PM ψ r c n mc (m + 1) φ' := by
  obtain ⟨_, h1, h2, h3, h4, ⟨r86, r87, r89, r91, r94, r95⟩, h6, h7, h8, h9, h10⟩ := h
  have ho := opc_step ψ (r + 13 + 8 * c) m
  have f45 : φ' (r + 13 + 8 * c + m) 45 = φ (r + 13 + 8 * c + m) 45 + 1 := by rw [e]; simp [jU]
  have f45n : ∀ x, ¬ x = (r + 13 + 8 * c + m) → φ' x 45 = φ x 45 := fun x hx => by rw [e]; simp [jU, hx]
  have f96 : φ' r 96 = φ r 96 + 1 := by rw [e]; simp [jU]
  have f96n : ∀ x, ¬ x = r → φ' x 96 = φ x 96 := fun x hx => by rw [e]; simp [jU, hx]
  have fo : ∀ x k, ¬ k = 45 → ¬ k = 96 → φ' x k = φ x k := fun x k h45 h96 => by rw [e]; simp [jU, h45, h96]
  refine ⟨hG, by rw [e]; exact jFr_up (jFr_up (h1) (Or.inr (Or.inr ⟨c, m, hcn, by omega, rfl, by omega⟩))) (Or.inl ⟨rfl, by decide, by decide⟩), ?_, ?_, ?_, ?_⟩
  · exact fun b hb => pmB_tr (Nat.le_succ m) (fo _ 3 (by decide) (by decide)) (fo _ 11 (by decide) (by decide)) (fo _ 12 (by decide) (by decide)) (h2 b hb)
  · intro k j hk hj hb
    have fk : ∀ x k, (k = 0 ∨ k = 3 ∨ k = 6 ∨ k = 7) → φ' x k = φ x k := fun x k hk => fo x k (by omega) (by omega)
    rw [fk _ 3 (by decide)] at hb
    exact h3 k j hk hj ((btc_keys fk _ _ _).mp hb)
  · intro c' m' hc' hm'
    have hm9 := h4 c' m' hc' hm'
    have hm6' := hS6 c' hc'
    by_cases q : c' = c ∧ m' = m
    · obtain ⟨rfl, rfl⟩ := q
      unfold pmM at *
      obtain ⟨h1, h2, h3, h5⟩ := hm9
      have e44 := fo (r + 13 + 8 * c' + m') 44 (by decide) (by decide)
      have h6 := h5 (Or.inr (Nat.le_refl _))
      exact ⟨by omega, by omega, by omega, fun q => by omega⟩
    · have hne := mv_ne hc (by omega) hc' (by omega) q (r := r)
      exact pmM_tr (Nat.le_succ m) (fo _ 44 (by decide) (by decide)) (f45n _ hne) hm9
  · have g85 := fo r 85 (by decide) (by decide)
    have g86 := fo r 86 (by decide) (by decide)
    have g87 := fo r 87 (by decide) (by decide)
    have g88 := fo r 88 (by decide) (by decide)
    have g89 := fo r 89 (by decide) (by decide)
    have g90 := fo r 90 (by decide) (by decide)
    have g91 := fo r 91 (by decide) (by decide)
    have g92 := fo r 92 (by decide) (by decide)
    have g93 := fo r 93 (by decide) (by decide)
    have g94 := fo r 94 (by decide) (by decide)
    have g95 := fo r 95 (by decide) (by decide)
    have g97 := fo r 97 (by decide) (by decide)
    refine ⟨⟨by omega, by omega, by omega, by omega, by omega, by omega⟩, by omega, ?_, by omega, by omega, ?_⟩
    · omega
    · rcases h10 with q | ⟨q1, q2, q3, q4, m9, q5, q6⟩
      · exact Or.inl (by omega)
      · exact absurd q2 (by omega)
theorem PM_near {b : Nat} {v : Int} {ψ φ φ' : jSt} {r c n mc m : Nat} (hr : r = 2 ∨ r = 61) (h : PM ψ r c n mc m φ) (hc : c < 6) (hcn : (c : Int) < ψ r 83) (hmc : ψ (r + 11 + 8 * c) 21 = (mc : Int)) (hm : m < mc) (hm6 : mc ≤ 6) (h0s : ψ (r + 13 + 8 * c + m) 44 = 0) (hG : jG φ') (hS6 : ∀ c' : Nat, c' < 6 → ψ (r + 11 + 8 * c') 21 ≤ 6) (h88 : φ r 88 = 0) (hv : v = φ r 85 ∨ v = φ r 85 - 1) (hb : b < n) (hbn : φ (r + 2 + b) 0 = (b : Int)) (e : φ' = jU (jU (jU (jU (φ) r 85 (v)) r 88 (1)) r 93 (φ r 93 + 1)) r 97 (φ (r + 2 + b) 0)) : PM ψ r c n mc (m + 1) φ' := by
  obtain ⟨_, h1, h2, h3, h4, ⟨r86, r87, r89, r91, r94, r95⟩, h6, h7, h8, h9, h10⟩ := h
  have ho := opc_step ψ (r + 13 + 8 * c) m
  have f85 : φ' r 85 = v := by rw [e]; simp [jU]
  have f85n : ∀ x, ¬ x = r → φ' x 85 = φ x 85 := fun x hx => by rw [e]; simp [jU, hx]
  have f88 : φ' r 88 = 1 := by rw [e]; simp [jU]
  have f88n : ∀ x, ¬ x = r → φ' x 88 = φ x 88 := fun x hx => by rw [e]; simp [jU, hx]
  have f93 : φ' r 93 = φ r 93 + 1 := by rw [e]; simp [jU]
  have f93n : ∀ x, ¬ x = r → φ' x 93 = φ x 93 := fun x hx => by rw [e]; simp [jU, hx]
  have f97 : φ' r 97 = φ (r + 2 + b) 0 := by rw [e]; simp [jU]
  have f97n : ∀ x, ¬ x = r → φ' x 97 = φ x 97 := fun x hx => by rw [e]; simp [jU, hx]
  have fo : ∀ x k, ¬ k = 85 → ¬ k = 88 → ¬ k = 93 → ¬ k = 97 → φ' x k = φ x k := fun x k h85 h88 h93 h97 => by rw [e]; simp [jU, h85, h88, h93, h97]
  refine ⟨hG, by rw [e]; exact jFr_up (jFr_up (jFr_up (jFr_up (h1) (Or.inl ⟨rfl, by decide, by decide⟩)) (Or.inl ⟨rfl, by decide, by decide⟩)) (Or.inl ⟨rfl, by decide, by decide⟩)) (Or.inl ⟨rfl, by decide, by decide⟩), ?_, ?_, ?_, ?_⟩
  · exact fun b hb => pmB_tr (Nat.le_succ m) (fo _ 3 (by decide) (by decide) (by decide) (by decide)) (fo _ 11 (by decide) (by decide) (by decide) (by decide)) (fo _ 12 (by decide) (by decide) (by decide) (by decide)) (h2 b hb)
  · intro k j hk hj hb
    have fk : ∀ x k, (k = 0 ∨ k = 3 ∨ k = 6 ∨ k = 7) → φ' x k = φ x k := fun x k hk => fo x k (by omega) (by omega) (by omega) (by omega)
    rw [fk _ 3 (by decide)] at hb
    exact h3 k j hk hj ((btc_keys fk _ _ _).mp hb)
  · intro c' m' hc' hm'
    exact pmM_tr (Nat.le_succ m) (fo _ 44 (by decide) (by decide) (by decide) (by decide)) (fo _ 45 (by decide) (by decide) (by decide) (by decide)) (h4 c' m' hc' hm')
  · have g86 := fo r 86 (by decide) (by decide) (by decide) (by decide)
    have g87 := fo r 87 (by decide) (by decide) (by decide) (by decide)
    have g89 := fo r 89 (by decide) (by decide) (by decide) (by decide)
    have g90 := fo r 90 (by decide) (by decide) (by decide) (by decide)
    have g91 := fo r 91 (by decide) (by decide) (by decide) (by decide)
    have g92 := fo r 92 (by decide) (by decide) (by decide) (by decide)
    have g94 := fo r 94 (by decide) (by decide) (by decide) (by decide)
    have g95 := fo r 95 (by decide) (by decide) (by decide) (by decide)
    have g96 := fo r 96 (by decide) (by decide) (by decide) (by decide)
    refine ⟨⟨by omega, by omega, by omega, by omega, by omega, by omega⟩, by omega, ?_, by omega, by omega, ?_⟩
    · omega
    · have hm9 := (h4 c m hc (by omega)).1
      have e44 := fo (r + 13 + 8 * c + m) 44 (by decide) (by decide) (by decide) (by decide)
      rcases h10 with q | ⟨q1, q2, q3, q4, m9, q5, q6⟩
      · exact Or.inr ⟨by omega, by omega, by omega, by omega, m, hm, by omega⟩
      · exact absurd q2 (by omega)
theorem PM_go {b : Nat} {v g t s d : Int} {ψ φ φ' : jSt} {r c n mc m : Nat} (hr : r = 2 ∨ r = 61) (h : PM ψ r c n mc m φ) (hc : c < 6) (hcn : (c : Int) < ψ r 83) (hmc : ψ (r + 11 + 8 * c) 21 = (mc : Int)) (hm : m < mc) (hm6 : mc ≤ 6) (h0s : ψ (r + 13 + 8 * c + m) 44 = 0) (hG : jG φ') (hS6 : ∀ c' : Nat, c' < 6 → ψ (r + 11 + 8 * c') 21 ≤ 6) (h88 : φ r 88 = 0) (hv : v = φ r 85 ∨ v = φ r 85 - 1) (hb : b < n) (hn : ψ r 81 = (n : Int)) (hmb : ψ (r + 13 + 8 * c + m) 40 = (b : Int)) (hdis : ∀ m1 m2 : Nat, m1 < mc → m2 < mc → ψ (r + 13 + 8 * c + m1) 40 = ψ (r + 13 + 8 * c + m2) 40 → m1 = m2)
  (ht0 : 0 ≤ t ∧ t ≤ 120) (hgt : g = t - φ (r + 2 + b) 3 ∨ g = φ (r + 2 + b) 3 - t) (hg0' : 0 ≤ g) (hg6 : g ≤ 6) (hsd : (s = 1 ∧ d = 1) ∨ (s = φ (r + 13 + 8 * c + m) 44 ∧ d = 0)) (hT : ∀ j, j < n → btc φ (r + 2 + b) t (r + 2 + j) → btc φ (r + 2 + b) (φ (r + 2 + b) 3) (r + 2 + j)) (e : φ' = jU (jU (jU (jU (jU (φ) r 85 (v)) (r + 2 + b) 11 (φ (r + 2 + b) 11 + g)) (r + 2 + b) 3 (t)) (r + 13 + 8 * c + m) 44 (s)) r 90 (φ r 90 + d)) : PM ψ r c n mc (m + 1) φ' := by
  obtain ⟨_, h1, h2, h3, h4, ⟨r86, r87, r89, r91, r94, r95⟩, h6, h7, h8, h9, h10⟩ := h
  have ho := opc_step ψ (r + 13 + 8 * c) m
  have f85 : φ' r 85 = v := by rw [e]; simp [jU]
  have f85n : ∀ x, ¬ x = r → φ' x 85 = φ x 85 := fun x hx => by rw [e]; simp [jU, hx]
  have f11 : φ' (r + 2 + b) 11 = φ (r + 2 + b) 11 + g := by rw [e]; simp [jU]
  have f11n : ∀ x, ¬ x = (r + 2 + b) → φ' x 11 = φ x 11 := fun x hx => by rw [e]; simp [jU, hx]
  have f3 : φ' (r + 2 + b) 3 = t := by rw [e]; simp [jU]
  have f3n : ∀ x, ¬ x = (r + 2 + b) → φ' x 3 = φ x 3 := fun x hx => by rw [e]; simp [jU, hx]
  have f44 : φ' (r + 13 + 8 * c + m) 44 = s := by rw [e]; simp [jU]
  have f44n : ∀ x, ¬ x = (r + 13 + 8 * c + m) → φ' x 44 = φ x 44 := fun x hx => by rw [e]; simp [jU, hx]
  have f90 : φ' r 90 = φ r 90 + d := by rw [e]; simp [jU]
  have f90n : ∀ x, ¬ x = r → φ' x 90 = φ x 90 := fun x hx => by rw [e]; simp [jU, hx]
  have fo : ∀ x k, ¬ k = 85 → ¬ k = 11 → ¬ k = 3 → ¬ k = 44 → ¬ k = 90 → φ' x k = φ x k := fun x k h85 h11 h3 h44 h90 => by rw [e]; simp [jU, h85, h11, h3, h44, h90]
  refine ⟨hG, by rw [e]; exact jFr_up (jFr_up (jFr_up (jFr_up (jFr_up (h1) (Or.inl ⟨rfl, by decide, by decide⟩)) (Or.inr (Or.inl ⟨b, by omega, rfl, by omega⟩))) (Or.inr (Or.inl ⟨b, by omega, rfl, by omega⟩))) (Or.inr (Or.inr ⟨c, m, hcn, by omega, rfl, by omega⟩))) (Or.inl ⟨rfl, by decide, by decide⟩), ?_, ?_, ?_, ?_⟩
  · intro b2 hb2
    by_cases q : b2 = b
    · subst q
      obtain ⟨k1, k2, k3, g2, k4, k5, k6, k7, k8⟩ := h2 b2 hb2
      have e12 := fo (r + 2 + b2) 12 (by decide) (by decide) (by decide) (by decide) (by decide)
      have hg0 : g2 = 0 := by
        rcases k8 with k8 | ⟨m9, k8, k9⟩
        · exact k8
        · exact absurd (hdis m9 m (by omega) hm (by omega)) (by omega)
      clear h6 h7 h8 h9 h10 r86 r87 r89 r91 r94 r95 ho hv hsd
      have e1 : φ (r + 2 + b2) 3 = ψ (r + 2 + b2) 3 := by
        rcases k6 with k6 | k6
        · rw [k6, hg0, Int.add_zero]
        · rw [k6, hg0, Int.sub_zero]
      have e3 : φ' (r + 2 + b2) 11 = ψ (r + 2 + b2) 11 + g := by rw [f11, k7, hg0, Int.add_zero]
      have e4 : φ' (r + 2 + b2) 12 = ψ (r + 2 + b2) 12 := by rw [e12, k3]
      have e2 : φ' (r + 2 + b2) 3 = ψ (r + 2 + b2) 3 + g ∨ φ' (r + 2 + b2) 3 = ψ (r + 2 + b2) 3 - g := by
        rw [f3, ← e1]
        clear e1 e3 e4 k1 k2 k3 k4 k5 k6 k7 k8 hg0 e12 f3 f11
        omega
      exact ⟨by rw [f3]; exact ht0.1, by rw [f3]; exact ht0.2, e4, g, hg0', hg6, e2, e3, Or.inr ⟨m, Nat.lt_succ_self m, hmb⟩⟩
    · exact pmB_tr (Nat.le_succ m) (f3n _ (by omega)) (f11n _ (by omega)) (fo _ 12 (by decide) (by decide) (by decide) (by decide) (by decide)) (h2 b2 hb2)
  · have fk : ∀ x k, (k = 0 ∨ k = 6 ∨ k = 7) → φ' x k = φ x k := fun x k hk => fo x k (by omega) (by omega) (by omega) (by omega) (by omega)
    have hown : ∀ j, j < n → btc φ' (r + 2 + b) t (r + 2 + j) → btc φ (r + 2 + b) (φ (r + 2 + b) 3) (r + 2 + j) := fun j hj hb2 => by
      refine hT j hj ((btc_own (fun a' k' q1 q2 => ?_)).mp hb2)
      by_cases q3 : k' = 3
      · subst q3; exact f3n a' (by omega)
      · exact fk a' k' (by omega)
    intro k j hk hj hb2
    by_cases qk : k = b
    · subst qk; rw [f3] at hb2; exact h3 k j hk hj (hown j hj hb2)
    · by_cases qj : j = b
      · subst qj
        have h9 := btc_sym _ _ hb2
        rw [f3] at h9
        exact h3 k j hk hj (btc_sym _ _ (hown k hk h9))
      · rw [f3n (r + 2 + k) (by omega)] at hb2
        exact h3 k j hk hj ((btc_eq (fk _ 0 (by omega)) (fk _ 0 (by omega)) (fk _ 7 (by omega)) (fk _ 7 (by omega)) (fk _ 6 (by omega)) (fk _ 6 (by omega)) (f3n _ (by omega))).mp hb2)
  · intro c' m' hc' hm'
    have hm9 := h4 c' m' hc' hm'
    have hm6' := hS6 c' hc'
    by_cases q : c' = c ∧ m' = m
    · obtain ⟨rfl, rfl⟩ := q
      unfold pmM at *
      obtain ⟨h1, h2, h3, h5⟩ := hm9
      have e45 := fo (r + 13 + 8 * c' + m') 45 (by decide) (by decide) (by decide) (by decide) (by decide)
      exact ⟨by omega, by omega, by omega, fun q => by omega⟩
    · have hne := mv_ne hc (by omega) hc' (by omega) q (r := r)
      exact pmM_tr (Nat.le_succ m) (f44n _ hne) (fo _ 45 (by decide) (by decide) (by decide) (by decide) (by decide)) hm9
  · have g86 := fo r 86 (by decide) (by decide) (by decide) (by decide) (by decide)
    have g87 := fo r 87 (by decide) (by decide) (by decide) (by decide) (by decide)
    have g88 := fo r 88 (by decide) (by decide) (by decide) (by decide) (by decide)
    have g89 := fo r 89 (by decide) (by decide) (by decide) (by decide) (by decide)
    have g91 := fo r 91 (by decide) (by decide) (by decide) (by decide) (by decide)
    have g92 := fo r 92 (by decide) (by decide) (by decide) (by decide) (by decide)
    have g93 := fo r 93 (by decide) (by decide) (by decide) (by decide) (by decide)
    have g94 := fo r 94 (by decide) (by decide) (by decide) (by decide) (by decide)
    have g95 := fo r 95 (by decide) (by decide) (by decide) (by decide) (by decide)
    have g96 := fo r 96 (by decide) (by decide) (by decide) (by decide) (by decide)
    have g97 := fo r 97 (by decide) (by decide) (by decide) (by decide) (by decide)
    refine ⟨⟨by omega, by omega, by omega, by omega, by omega, by omega⟩, by omega, ?_, by omega, by omega, ?_⟩
    · have ho1 : opc ψ (r + 13 + 8 * c) (m + 1) = opc ψ (r + 13 + 8 * c) m + 1 := by
        show opc ψ (r + 13 + 8 * c) m + _ = _
        rw [if_pos h0s]
      omega
    · rcases h10 with q | ⟨q1, q2, q3, q4, m9, q5, q6⟩
      · exact Or.inl (by omega)
      · exact absurd q2 (by omega)
