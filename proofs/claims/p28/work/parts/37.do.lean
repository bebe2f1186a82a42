/-! what the law keeps of the tower -/
def ldW (ψ : jSt) (b : Int) : Nat → Int
  | 0 => 0
  | k + 1 => if ψ (121 + k) 63 = b then ldW ψ b k + ψ (121 + k) 60 else ldW ψ b k
def ldM (ψ : jSt) (key : Nat) (b : Int) : Nat → Int
  | 0 => 0
  | k + 1 => if ψ (121 + k) 63 = b then (if ldM ψ key b k ≤ ψ (121 + k) key then ψ (121 + k) key else ldM ψ key b k) else ldM ψ key b k
def pcR (ψ : jSt) (a : Nat) : Prop := (0 ≤ ψ a 60 ∧ ψ a 60 ≤ 90) ∧ (0 ≤ ψ a 61 ∧ ψ a 61 ≤ 60) ∧ (0 ≤ ψ a 62 ∧ ψ a 62 ≤ 2)
theorem ldW_le {ψ : jSt} {b : Int} : ∀ {k : Nat}, (∀ p, p < k → pcR ψ (121 + p)) → 0 ≤ ldW ψ b k ∧ ldW ψ b k ≤ 90 * k
  | 0, _ => ⟨Int.le_refl _, Int.le_refl _⟩
  | k + 1, h => by
    have ih := ldW_le (b := b) (fun p hp => h p (Nat.lt_succ_of_lt hp))
    have h1 := (h k (Nat.lt_succ_self k)).1
    show 0 ≤ (if ψ (121 + k) 63 = b then ldW ψ b k + ψ (121 + k) 60 else ldW ψ b k) ∧ (if ψ (121 + k) 63 = b then ldW ψ b k + ψ (121 + k) 60 else ldW ψ b k) ≤ _
    split <;> omega
theorem ldM_le {ψ : jSt} {key : Nat} {b M : Int} (hM : 0 ≤ M) : ∀ {k : Nat}, (∀ p, p < k → 0 ≤ ψ (121 + p) key ∧ ψ (121 + p) key ≤ M) → 0 ≤ ldM ψ key b k ∧ ldM ψ key b k ≤ M
  | 0, _ => ⟨Int.le_refl _, hM⟩
  | k + 1, h => by
    have ih := ldM_le (b := b) hM (fun p hp => h p (Nat.lt_succ_of_lt hp))
    have h1 := h k (Nat.lt_succ_self k)
    show 0 ≤ (if ψ (121 + k) 63 = b then (if ldM ψ key b k ≤ ψ (121 + k) key then ψ (121 + k) key else ldM ψ key b k) else ldM ψ key b k) ∧ (if ψ (121 + k) 63 = b then (if ldM ψ key b k ≤ ψ (121 + k) key then ψ (121 + k) key else ldM ψ key b k) else ldM ψ key b k) ≤ _
    split
    · split <;> omega
    · omega
theorem ldW_eq {ψ φ : jSt} {b : Int} : ∀ {k : Nat}, (∀ p, p < k → φ (121 + p) 63 = ψ (121 + p) 63 ∧ φ (121 + p) 60 = ψ (121 + p) 60) → ldW φ b k = ldW ψ b k
  | 0, _ => rfl
  | k + 1, h => by
    have ih := ldW_eq (b := b) (fun p hp => h p (Nat.lt_succ_of_lt hp))
    have h1 := h k (Nat.lt_succ_self k)
    show (if φ (121 + k) 63 = b then ldW φ b k + φ (121 + k) 60 else ldW φ b k) = (if ψ (121 + k) 63 = b then ldW ψ b k + ψ (121 + k) 60 else ldW ψ b k)
    rw [ih, h1.1, h1.2]
theorem ldM_eq {ψ φ : jSt} {key : Nat} {b : Int} : ∀ {k : Nat}, (∀ p, p < k → φ (121 + p) 63 = ψ (121 + p) 63 ∧ φ (121 + p) key = ψ (121 + p) key) → ldM φ key b k = ldM ψ key b k
  | 0, _ => rfl
  | k + 1, h => by
    have ih := ldM_eq (b := b) (fun p hp => h p (Nat.lt_succ_of_lt hp))
    have h1 := h k (Nat.lt_succ_self k)
    show (if φ (121 + k) 63 = b then (if ldM φ key b k ≤ φ (121 + k) key then φ (121 + k) key else ldM φ key b k) else ldM φ key b k) = (if ψ (121 + k) 63 = b then (if ldM ψ key b k ≤ ψ (121 + k) key then ψ (121 + k) key else ldM ψ key b k) else ldM ψ key b k)
    rw [ih, h1.1, h1.2]
/-- .. of a bar on which the piece p neither was nor is -/
theorem ldW_off {ψ φ : jSt} {b : Int} {p : Nat} (h60 : ∀ a, φ a 60 = ψ a 60) (hne : ∀ a, ¬ a = 121 + p → φ a 63 = ψ a 63) (h1 : ¬ ψ (121 + p) 63 = b) (h2 : ¬ φ (121 + p) 63 = b) : ∀ k, ldW φ b k = ldW ψ b k
  | 0 => rfl
  | k + 1 => by
    show (if φ (121 + k) 63 = b then ldW φ b k + φ (121 + k) 60 else ldW φ b k) = (if ψ (121 + k) 63 = b then ldW ψ b k + ψ (121 + k) 60 else ldW ψ b k)
    rw [ldW_off h60 hne h1 h2 k, h60]
    by_cases q : k = p
    · subst q; rw [if_neg h1, if_neg h2]
    · rw [hne _ (by omega)]
theorem ldM_off {ψ φ : jSt} {key : Nat} {b : Int} {p : Nat} (h60 : ∀ a, φ a key = ψ a key) (hne : ∀ a, ¬ a = 121 + p → φ a 63 = ψ a 63) (h1 : ¬ ψ (121 + p) 63 = b) (h2 : ¬ φ (121 + p) 63 = b) : ∀ k, ldM φ key b k = ldM ψ key b k
  | 0 => rfl
  | k + 1 => by
    show (if φ (121 + k) 63 = b then (if ldM φ key b k ≤ φ (121 + k) key then φ (121 + k) key else ldM φ key b k) else ldM φ key b k) = (if ψ (121 + k) 63 = b then (if ldM ψ key b k ≤ ψ (121 + k) key then ψ (121 + k) key else ldM ψ key b k) else ldM ψ key b k)
    rw [ldM_off h60 hne h1 h2 k, h60]
    by_cases q : k = p
    · subst q; rw [if_neg h1, if_neg h2]
    · rw [hne _ (by omega)]
/-- .. of the bar on which it is hung -/
theorem ldW_on {ψ φ : jSt} {b : Int} {p : Nat} (h60 : ∀ a, φ a 60 = ψ a 60) (hne : ∀ a, ¬ a = 121 + p → φ a 63 = ψ a 63) (h1 : ¬ ψ (121 + p) 63 = b) (h2 : φ (121 + p) 63 = b) : ∀ k, ldW φ b k = ldW ψ b k + (if p < k then ψ (121 + p) 60 else 0)
  | 0 => rfl
  | k + 1 => by
    show (if φ (121 + k) 63 = b then ldW φ b k + φ (121 + k) 60 else ldW φ b k) = (if ψ (121 + k) 63 = b then ldW ψ b k + ψ (121 + k) 60 else ldW ψ b k) + _
    rw [ldW_on h60 hne h1 h2 k, h60]
    by_cases q : k = p
    · subst q; rw [if_neg h1, if_pos h2, if_neg (Nat.lt_irrefl _), if_pos (Nat.lt_succ_self _)]; omega
    · rw [hne _ (by omega)]
      by_cases q2 : p < k
      · rw [if_pos q2, if_pos (show p < k + 1 by omega)]
        split <;> omega
      · rw [if_neg q2, if_neg (show ¬ p < k + 1 by omega)]
        split <;> omega
/-- moves that are not told are as they were made -/
def NL (ψ : jSt) : Prop := ∀ c m : Nat, c < 6 → m < 6 → ψ (2 + 11 + 8 * c) 21 ≤ m → ψ (2 + 13 + 8 * c + m) 44 = -1 ∧ ψ (2 + 13 + 8 * c + m) 45 = 0
def LD (ψ : jSt) (n : Nat) : Prop := ∀ b : Nat, b < n → ψ (2 + 2 + b) 5 = ldW ψ b 8 ∧ ψ (2 + 2 + b) 6 = ldM ψ 61 b 8 ∧ ψ (2 + 2 + b) 7 = ldM ψ 62 b 8 ∧ ψ (2 + 2 + b) 5 ≤ ψ (2 + 2 + b) 2 ∧ ψ (2 + 2 + b) 2 ≤ 229
def INV (ψ : jSt) (n : Nat) : Prop := jG ψ ∧ jS ψ 2 ∧ jY ψ 2 ∧ RS ψ ∧ NL ψ ∧ LD ψ n ∧ ψ 2 81 = (n : Int) ∧ ψ 2 83 = 4 ∧ ψ 1 103 = 8 ∧ (∀ p : Nat, p < 8 → pcR ψ (121 + p) ∧ -1 ≤ ψ (121 + p) 63 ∧ ψ (121 + p) 63 < (n : Int))
theorem jY_keys {ψ φ : jSt} {r : Nat} (h : ∀ a k, (k = 3 ∨ k = 11 ∨ k = 21 ∨ k = 44 ∨ k = 45 ∨ k = 83 ∨ (86 ≤ k ∧ k ≤ 96)) → φ a k = ψ a k) (hY : jY ψ r) : jY φ r := by
  have eo : opn φ r = opn ψ r := opn_keys fun a k q => h a k (by omega)
  obtain ⟨y86, y87, y88, y89, yk, yb, ym, yr, yn, yo⟩ := hY
  refine ⟨by rw [h _ 86 (by decide)]; exact y86, by rw [h _ 87 (by decide), h _ 83 (by decide)]; exact y87, by rw [h _ 88 (by decide)]; exact y88, by rw [h _ 89 (by decide), h _ 86 (by decide)]; exact y89, fun k k1 k2 => by rw [h _ k (by omega), h _ 86 (by decide)]; exact yk k k1 k2, fun b hb => by rw [h _ 3 (by decide), h _ 11 (by decide), h _ 86 (by decide)]; exact yb b hb, fun c m hc hm => ?_, fun c hc m hm => ?_, fun q => ?_, fun q => ?_⟩
  · rw [h _ 21 (by decide)] at hm
    rw [h _ 44 (by decide), h _ 45 (by decide), h _ 86 (by decide)]
    exact ym c m hc hm
  · rw [h _ 87 (by decide)] at hc
    rw [h _ 21 (by decide)] at hm
    rw [h _ 44 (by decide)]
    exact yr c hc m hm
  · rw [h _ 87 (by decide)] at q
    rw [h _ 88 (by decide)]
    exact yn q
  · rw [eo] at q
    rw [h _ 89 (by decide)]
    exact yo q
theorem jS_keys {ψ φ : jSt} {r : Nat} (h : ∀ a k, (k = 21 ∨ k = 22 ∨ (40 ≤ k ∧ k ≤ 43) ∨ k = 81 ∨ k = 83) → φ a k = ψ a k) (h84 : 0 ≤ φ r 84 ∧ φ r 84 ≤ 5) (hB : ∀ b : Nat, b < 8 → jsB φ (r + 2 + b) b) (hS : jS ψ r) : jS φ r := by
  obtain ⟨s81, s83, s84, sB, sC, sM, sD⟩ := hS
  refine ⟨by rw [h _ 81 (by decide)]; exact s81, by rw [h _ 83 (by decide)]; exact s83, h84, hB, fun c hc => by rw [h _ 21 (by decide), h _ 22 (by decide)]; exact sC c hc, fun c m hc hm => ?_, fun c m m' hc hm hm' hq => ?_⟩
  · rw [h _ 21 (by decide)] at hm
    unfold jsM
    rw [h _ 40 (by decide), h _ 41 (by decide), h _ 42 (by decide), h _ 43 (by decide), h _ 81 (by decide)]
    exact sM c m hc hm
  · rw [h _ 21 (by decide)] at hm hm'
    rw [h _ 40 (by decide), h _ 40 (by decide)] at hq
    exact sD c m m' hc hm hm' hq
theorem RS_keys {ψ φ : jSt} (h : ∀ a k, 61 ≤ a → a < 120 → φ a k = ψ a k) (h81 : φ 2 81 = ψ 2 81) (h83 : φ 2 83 = ψ 2 83) (hR : RS ψ) : RS φ := by
  obtain ⟨r1, r2, r3⟩ := hR
  exact ⟨fun b hb => by rw [h _ _ (by omega) (by omega)]; exact r1 b hb, fun b hb hq k k1 k2 => by rw [h _ _ (by omega) (by omega)]; exact r2 b hb (by omega) k k1 k2, fun c hc hq => by rw [h _ _ (by omega) (by omega), h _ _ (by omega) (by omega)]; exact r3 c hc (by omega)⟩
theorem NL_keys {ψ φ : jSt} (h : ∀ a k, (k = 21 ∨ k = 44 ∨ k = 45) → φ a k = ψ a k) (hN : NL ψ) : NL φ := fun c m hc hm hq => by
  rw [h _ 21 (by decide)] at hq
  rw [h _ 44 (by decide), h _ 45 (by decide)]
  exact hN c m hc hm hq
theorem LD_keys {ψ φ : jSt} {n : Nat} (h : ∀ a k, (k = 2 ∨ k = 5 ∨ k = 6 ∨ k = 7 ∨ (60 ≤ k ∧ k ≤ 63)) → φ a k = ψ a k) (hL : LD ψ n) : LD φ n := fun b hb => by
  have e1 : ldW φ b 8 = ldW ψ b 8 := ldW_eq fun p _ => ⟨h _ 63 (by decide), h _ 60 (by decide)⟩
  have e2 : ldM φ 61 b 8 = ldM ψ 61 b 8 := ldM_eq fun p _ => ⟨h _ 63 (by decide), h _ 61 (by decide)⟩
  have e3 : ldM φ 62 b 8 = ldM ψ 62 b 8 := ldM_eq fun p _ => ⟨h _ 63 (by decide), h _ 62 (by decide)⟩
  rw [e1, e2, e3, h _ 5 (by decide), h _ 6 (by decide), h _ 7 (by decide), h _ 2 (by decide)]
  exact hL b hb
/-- one bar is told anew: counter, people, watch, brake -/
theorem INV_bar {ψ φ : jSt} {n b : Nat} (hb : b < n) (hI : INV ψ n) (hG : jG φ) (h : ∀ x k, ¬ (x = 2 + 2 + b ∧ (k = 4 ∨ k = 8 ∨ k = 9 ∨ k = 10)) → φ x k = ψ x k) (h4 : 0 ≤ φ (2 + 2 + b) 4 ∧ φ (2 + 2 + b) 4 ≤ 300) (h8 : φ (2 + 2 + b) 8 = 0 ∨ φ (2 + 2 + b) 8 = 1) (h9 : φ (2 + 2 + b) 9 = 0 ∨ φ (2 + 2 + b) 9 = 1) (h10 : φ (2 + 2 + b) 10 = 0 ∨ φ (2 + 2 + b) 10 = 1) : INV φ n := by
  obtain ⟨_, hS, hY, hR, hN, hL, i81, i83, i103, hP⟩ := hI
  have hk : ∀ x k, ¬ (k = 4 ∨ k = 8 ∨ k = 9 ∨ k = 10) → φ x k = ψ x k := fun x k q => h x k (fun q2 => q q2.2)
  have hn8 := hS.1
  refine ⟨hG, jS_keys (fun a k q => hk a k (by omega)) (by rw [hk _ 84 (by decide)]; exact hS.2.2.1) (fun b' hb' => ?_) hS, jY_keys (fun a k q => hk a k (by omega)) hY, RS_keys (fun a k k1 k2 => h a k (by omega)) (hk _ _ (by decide)) (hk _ _ (by decide)) hR, NL_keys (fun a k q => hk a k (by omega)) hN, LD_keys (fun a k q => hk a k (by omega)) hL, by rw [hk _ _ (by decide)]; exact i81, by rw [hk _ _ (by decide)]; exact i83, by rw [hk _ _ (by decide)]; exact i103, fun p hp => by unfold pcR; rw [hk _ 60 (by decide), hk _ 61 (by decide), hk _ 62 (by decide), hk _ 63 (by decide)]; exact hP p hp⟩
  have hs := hS.2.2.2.1 b' hb'
  unfold jsB at *
  rw [hk _ 0 (by decide), hk _ 1 (by decide), hk _ 2 (by decide), hk _ 5 (by decide), hk _ 6 (by decide), hk _ 7 (by decide)]
  by_cases q : b' = b
  · subst q
    exact ⟨hs.1, hs.2.1, hs.2.2.1, h4, hs.2.2.2.2.1, hs.2.2.2.2.2.1, hs.2.2.2.2.2.2.1, h8, h9, h10⟩
  · rw [h _ 4 (by omega), h _ 8 (by omega), h _ 9 (by omega), h _ 10 (by omega)]
    exact hs
/-- the crew is told, or what runs is stopped, or ended -/
theorem INV_rig {ψ φ : jSt} {n : Nat} (hI : INV ψ n) (hG : jG φ) (h : ∀ x k, ¬ (x = 2 ∧ (k = 84 ∨ (87 ≤ k ∧ k ≤ 89))) → φ x k = ψ x k) (h84 : 0 ≤ φ 2 84 ∧ φ 2 84 ≤ 5) (h88 : φ 2 88 = 0 ∨ φ 2 88 = 1) (hc : (φ 2 87 = ψ 2 87 ∧ φ 2 89 = ψ 2 89 ∧ (ψ 2 87 = -1 → φ 2 88 = 0)) ∨ (φ 2 87 = -1 ∧ φ 2 88 = 0 ∧ φ 2 89 = 0)) : INV φ n := by
  obtain ⟨_, hS, hY, hR, hN, hL, i81, i83, i103, hP⟩ := hI
  have hk : ∀ x k, ¬ (k = 84 ∨ (87 ≤ k ∧ k ≤ 89)) → φ x k = ψ x k := fun x k q => h x k (fun q2 => q q2.2)
  refine ⟨hG, jS_keys (fun a k q => hk a k (by omega)) h84 (fun b' hb' => ?_) hS, ?_, RS_keys (fun a k k1 k2 => h a k (by omega)) (hk _ _ (by decide)) (hk _ _ (by decide)) hR, NL_keys (fun a k q => hk a k (by omega)) hN, LD_keys (fun a k q => hk a k (by omega)) hL, by rw [hk _ _ (by decide)]; exact i81, by rw [hk _ _ (by decide)]; exact i83, by rw [hk _ _ (by decide)]; exact i103, fun p hp => by unfold pcR; rw [hk _ 60 (by decide), hk _ 61 (by decide), hk _ 62 (by decide), hk _ 63 (by decide)]; exact hP p hp⟩
  · have hs := hS.2.2.2.1 b' hb'
    unfold jsB at *
    rw [hk _ 0 (by decide), hk _ 1 (by decide), hk _ 2 (by decide), hk _ 4 (by decide), hk _ 5 (by decide), hk _ 6 (by decide), hk _ 7 (by decide), hk _ 8 (by decide), hk _ 9 (by decide), hk _ 10 (by decide)]
    exact hs
  · obtain ⟨y86, y87, y88, y89, yk, yb, ym, yr, yn, yo⟩ := hY
    refine ⟨by rw [hk _ 86 (by decide)]; exact y86, by rw [hk _ 83 (by decide)]; omega, h88, by rw [hk _ 86 (by decide)]; omega, fun k k1 k2 => by rw [hk _ k (by omega), hk _ 86 (by decide)]; exact yk k k1 k2, fun b hb => by rw [hk _ 3 (by decide), hk _ 11 (by decide), hk _ 86 (by decide)]; exact yb b hb, fun c m hc hm => ?_, fun c hc9 m hm => ?_, fun q => ?_, fun q => ?_⟩
    · rw [hk _ 21 (by decide)] at hm
      rw [hk _ 44 (by decide), hk _ 45 (by decide), hk _ 86 (by decide)]
      exact ym c m hc hm
    · rw [hk _ 21 (by decide)] at hm
      rw [hk _ 44 (by decide)]
      exact yr c (by omega) m hm
    · rcases hc with ⟨q1, q2, q3⟩ | ⟨q1, q2, q3⟩
      · exact q3 (by omega)
      · exact q2
    · rcases hc with ⟨q1, q2, q3⟩ | ⟨q1, q2, q3⟩
      · rw [q2]
        refine yo ?_
        rw [← q]
        unfold opn
        rw [q1, hk _ 21 (by decide), opc_eq (fun j _ => hk _ 44 (by decide))]
      · exact q3
/-- one bar is weighed anew, after the piece p has gone on it or from it -/
theorem INV_load {ψ φ : jSt} {n b p : Nat} (hb : b < n) (hI : INV ψ n) (hG : jG φ) (h : ∀ x k, ¬ (x = 2 + 2 + b ∧ (k = 5 ∨ k = 6 ∨ k = 7)) → ¬ (x = 121 + p ∧ k = 63) → φ x k = ψ x k) (hon : ψ (121 + p) 63 = -1 ∧ φ (121 + p) 63 = (b : Int) ∨ ψ (121 + p) 63 = (b : Int) ∧ φ (121 + p) 63 = -1)
    (h5 : φ (2 + 2 + b) 5 = ldW φ b 8) (h6 : φ (2 + 2 + b) 6 = ldM φ 61 b 8) (h7 : φ (2 + 2 + b) 7 = ldM φ 62 b 8) (hl : ldW φ b 8 ≤ ψ (2 + 2 + b) 2) : INV φ n := by
  obtain ⟨_, hS, hY, hR, hN, hL, i81, i83, i103, hP⟩ := hI
  have hk : ∀ x k, ¬ (k = 5 ∨ k = 6 ∨ k = 7 ∨ k = 63) → φ x k = ψ x k := fun x k q => h x k (fun q2 => q (by omega)) (fun q2 => q (by omega))
  have hn8 := hS.1
  have hP2 : ∀ p', p' < 8 → pcR φ (121 + p') := fun p' hp' => by
    unfold pcR
    rw [hk _ 60 (by decide), hk _ 61 (by decide), hk _ 62 (by decide)]
    exact (hP p' hp').1
  have hw := ldW_le (b := (b : Int)) hP2
  have hm1 := ldM_le (key := 61) (b := (b : Int)) (M := 60) (by decide) (fun p' hp' => (hP2 p' hp').2.1)
  have hm2 := ldM_le (key := 62) (b := (b : Int)) (M := 2) (by decide) (fun p' hp' => (hP2 p' hp').2.2)
  have hne : ∀ a, ¬ a = 121 + p → φ a 63 = ψ a 63 := fun a q => h a 63 (by omega) (by omega)
  refine ⟨hG, jS_keys (fun a k q => hk a k (by omega)) (by rw [hk _ 84 (by decide)]; exact hS.2.2.1) (fun b' hb' => ?_) hS, jY_keys (fun a k q => hk a k (by omega)) hY, RS_keys (fun a k k1 k2 => h a k (by omega) (by omega)) (hk _ _ (by decide)) (hk _ _ (by decide)) hR, NL_keys (fun a k q => hk a k (by omega)) hN, fun b' hb' => ?_, by rw [hk _ _ (by decide)]; exact i81, by rw [hk _ _ (by decide)]; exact i83, by rw [hk _ _ (by decide)]; exact i103, fun p' hp' => ⟨hP2 p' hp', ?_⟩⟩
  · have hs := hS.2.2.2.1 b' hb'
    unfold jsB at *
    rw [hk _ 0 (by decide), hk _ 1 (by decide), hk _ 2 (by decide), hk _ 4 (by decide), hk _ 8 (by decide), hk _ 9 (by decide), hk _ 10 (by decide)]
    by_cases q : b' = b
    · subst q
      have hl2 := hs.2.2.1
      exact ⟨hs.1, hs.2.1, hs.2.2.1, hs.2.2.2.1, by omega, by omega, by omega, hs.2.2.2.2.2.2.2⟩
    · rw [h _ 5 (by omega) (by omega), h _ 6 (by omega) (by omega), h _ 7 (by omega) (by omega)]
      exact hs
  · have hl9 := hL b' hb'
    rw [hk _ 2 (by decide)]
    by_cases q : b' = b
    · subst q
      exact ⟨h5, h6, h7, by omega, hl9.2.2.2.2⟩
    · rw [h _ 5 (by omega) (by omega), h _ 6 (by omega) (by omega), h _ 7 (by omega) (by omega), ldW_off (fun a => hk a 60 (by decide)) hne (by omega) (by omega), ldM_off (fun a => hk a 61 (by decide)) hne (by omega) (by omega), ldM_off (fun a => hk a 62 (by decide)) hne (by omega) (by omega)]
      exact hl9
  · by_cases q : p' = p
    · subst q
      omega
    · rw [hne _ (by omega)]
      exact (hP p' hp').2
section P37
variable {xs : Nat → Int32} {L0 : Nat}
def q22 (ψ : jSt) (b i : Nat) (φ : jSt) : Prop := jG φ ∧ φ (2 + 2 + b) 5 = ldW ψ b i ∧ φ (2 + 2 + b) 6 = ldM ψ 61 b i ∧ φ (2 + 2 + b) 7 = ldM ψ 62 b i ∧ (∀ x k, ¬ (x = 2 + 2 + b ∧ (k = 5 ∨ k = 6 ∨ k = 7)) → φ x k = ψ x k)
theorem q22_no {ψ φ : jSt} {b i : Nat} (h : q22 ψ b i φ) (hq : ¬ ψ (121 + i) 63 = (b : Int)) : q22 ψ b (i + 1) φ := by
  obtain ⟨h0, h1, h2, h3, h4⟩ := h
  refine ⟨h0, ?_, ?_, ?_, h4⟩
  · show _ = (if ψ (121 + i) 63 = (b : Int) then _ else _)
    rw [if_neg hq]; exact h1
  · show _ = (if ψ (121 + i) 63 = (b : Int) then _ else _)
    rw [if_neg hq]; exact h2
  · show _ = (if ψ (121 + i) 63 = (b : Int) then _ else _)
    rw [if_neg hq]; exact h3
theorem q22_yes {ψ φ φ' : jSt} {b i : Nat} {z1 z2 : Int} (h : q22 ψ b i φ) (hq : ψ (121 + i) 63 = (b : Int)) (hG : jG φ') (hz1 : ldM ψ 61 b i ≤ z1 ∧ ψ (121 + i) 61 ≤ z1 ∧ (z1 = ldM ψ 61 b i ∨ z1 = ψ (121 + i) 61)) (hz2 : ldM ψ 62 b i ≤ z2 ∧ ψ (121 + i) 62 ≤ z2 ∧ (z2 = ldM ψ 62 b i ∨ z2 = ψ (121 + i) 62))
    (e : φ' = jU (jU (jU φ (2 + 2 + b) 5 (ldW ψ b i + ψ (121 + i) 60)) (2 + 2 + b) 6 z1) (2 + 2 + b) 7 z2) : q22 ψ b (i + 1) φ' := by
  obtain ⟨h0, h1, h2, h3, h4⟩ := h
  have f5 : φ' (2 + 2 + b) 5 = ldW ψ b i + ψ (121 + i) 60 := by rw [e]; simp [jU]
  have f5n : ∀ x, ¬ x = (2 + 2 + b) → φ' x 5 = φ x 5 := fun x hx => by rw [e]; simp [jU, hx]
  have f6 : φ' (2 + 2 + b) 6 = z1 := by rw [e]; simp [jU]
  have f6n : ∀ x, ¬ x = (2 + 2 + b) → φ' x 6 = φ x 6 := fun x hx => by rw [e]; simp [jU, hx]
  have f7 : φ' (2 + 2 + b) 7 = z2 := by rw [e]; simp [jU]
  have f7n : ∀ x, ¬ x = (2 + 2 + b) → φ' x 7 = φ x 7 := fun x hx => by rw [e]; simp [jU, hx]
  have fo : ∀ x k, ¬ k = 5 → ¬ k = 6 → ¬ k = 7 → φ' x k = φ x k := fun x k h5 h6 h7 => by rw [e]; simp [jU, h5, h6, h7]
  refine ⟨hG, ?_, ?_, ?_, fun x k hk => ?_⟩
  · rw [f5]
    show _ = (if ψ (121 + i) 63 = (b : Int) then _ else _)
    rw [if_pos hq]
  · rw [f6]
    show _ = (if ψ (121 + i) 63 = (b : Int) then (if ldM ψ 61 b i ≤ ψ (121 + i) 61 then ψ (121 + i) 61 else ldM ψ 61 b i) else _)
    rw [if_pos hq]
    split <;> omega
  · rw [f7]
    show _ = (if ψ (121 + i) 63 = (b : Int) then (if ldM ψ 62 b i ≤ ψ (121 + i) 62 then ψ (121 + i) 62 else ldM ψ 62 b i) else _)
    rw [if_pos hq]
    split <;> omega
  · rw [← h4 x k hk, e]
    unfold jU
    rw [if_neg (by omega), if_neg (by omega), if_neg (by omega)]
theorem m_22 {ψ : jSt} (b : Nat) (hb : b < 8) (h0 : ψ (2 + 2 + b) 0 = (b : Int)) (h103 : ψ 1 103 = 8) (hP : ∀ p, p < 8 → pcR ψ (121 + p)) (hG : jG ψ) : JZ Eq xs L0 22 0 ([some (.ref 1), some (.ref (2 + 2 + b))] ++ List.replicate 2 none) [] ψ (oV (q22 ψ b 8)) := by
  have hT := jTow1
  have hrB := jR_rig (r := 2) (by decide)
  have hbar := jR_bar (r := 2) (by decide) hb
  have hbl := jSk_lt hbar
  refine JZ_aload_n i_22_0 (by rfl) ?_
  refine JZ_iconst i_22_1 ?_
  refine JZ_pB (key := 5) i_22_2 f_22_168 (by assumption) (by rfl) rfl (Or.inl t_0_5) (by rfl) hG (by omega) (fun hG => ?_)
  refine JZ_aload_n i_22_5 (by rfl) ?_
  refine JZ_iconst i_22_6 ?_
  refine JZ_pB (key := 6) i_22_7 f_22_226 (by assumption) (by rfl) rfl (Or.inl t_0_6) (by rfl) hG (by omega) (fun hG => ?_)
  refine JZ_aload_n i_22_10 (by rfl) ?_
  refine JZ_iconst i_22_11 ?_
  refine JZ_pB (key := 7) i_22_12 f_22_229 (by assumption) (by rfl) rfl (Or.inl t_0_7) (by rfl) hG (by omega) (fun hG => ?_)
  refine JZ_iconst i_22_15 ?_
  refine JZ_istore_n i_22_16 (by rw [l_22]; decide) (by rfl) ?_
  refine JZ_fg (L' := [some (.ref 1), some (.ref (2 + 2 + b)), some (.int (jI (((0 : Nat) : Int)))), none]) ?_ (by repeat (first | exact trivial | refine ⟨rfl, ?_⟩))
  refine JZ_for (σ := Unit) (N := 8) (I := fun i _ φ => q22 ψ b i φ) (Lf := fun i _ => [some (.ref 1), some (.ref (2 + 2 + b)), some (.int (jI ((i : Int)))), none]) ?_ ?_ 8 0 () _ (by omega) ?_
  · intro i u φ hi hI hK
    have hG := hI.1
    have e103 : φ 1 103 = 8 := by rw [hI.2.2.2.2 1 103 (by omega)]; exact h103
    have e0 : φ (2 + 2 + b) 0 = (b : Int) := by rw [hI.2.2.2.2 _ 0 (by omega)]; exact h0
    have hpi := jR_piece (show i < 10 by omega)
    have hpl := jSk_lt hpi
    have w63 : φ (121 + i) 63 = ψ (121 + i) 63 := hI.2.2.2.2 _ _ (by omega)
    refine JZ_iload_n i_22_17 (by rfl) ?_
    refine JZ_aload_n i_22_18 (by rfl) ?_
    refine JZ_gB (key := 103) i_22_19 f_22_68 (by assumption) (by rfl) rfl hG (fun u19 v19 => ?_)
    refine JZ_icge (tg := 92) i_22_22 (by decide) (by omega) (by omega) (fun h22 => ?_) (fun h22 => ?_)
    · exfalso; omega
    refine JZ_aload_n i_22_25 (by rfl) ?_
    refine JZ_gR i_22_26 f_22_21 jTow1 (by rfl) ?_
    refine JZ_iload_n i_22_29 (by rfl) ?_
    refine JZ_aPiece (i) i_22_30 (by omega) (by omega) ?_
    refine JZ_astore_n i_22_31 (by rw [l_22]; decide) (by rfl) (by first | omega | (dsimp only; omega)) ?_
    refine JZ_aload_n i_22_32 (by rfl) ?_
    refine JZ_gB (key := 63) i_22_33 f_22_161 (by assumption) (by rfl) rfl hG (fun u33 v33 => ?_)
    refine JZ_aload_n i_22_36 (by rfl) ?_
    refine JZ_gB (key := 0) i_22_37 f_22_59 (by assumption) (by rfl) rfl hG (fun u37 v37 => ?_)
    refine JZ_icne (tg := 86) i_22_40 (by decide) (by omega) (by omega) (fun h40 => ?_) (fun h40 => ?_)
    · refine JZ_iinc i_22_86 (by rfl) (by rw [l_22]; decide) (by rfl) ?_
      refine JZ_goto (tg := 17) i_22_89 (by decide) ?_
      first
        | exact JZ_fg (hK () _ (q22_no hI (by omega))) (by repeat (first | exact trivial | refine ⟨rfl, ?_⟩))
        | exact JZ_fg (hK () _ (q22_yes (z1 := z65) (z2 := z80) hI (by omega) hG (by omega) (by omega) (by rw [hφ6, hφ5, w5, w60]))) (by repeat (first | exact trivial | refine ⟨rfl, ?_⟩))
    have w5 := hI.2.1
    have w6 := hI.2.2.1
    have w7 := hI.2.2.2.1
    have w60 : φ (121 + i) 60 = ψ (121 + i) 60 := hI.2.2.2.2 _ _ (by omega)
    have w61 : φ (121 + i) 61 = ψ (121 + i) 61 := hI.2.2.2.2 _ _ (by omega)
    have w62 : φ (121 + i) 62 = ψ (121 + i) 62 := hI.2.2.2.2 _ _ (by omega)
    have hwl := ldW_le (ψ := ψ) (b := (b : Int)) (k := i) (fun p hp => hP p (by omega))
    have hpi := hP i hi
    unfold pcR at hpi
    refine JZ_aload_n i_22_43 (by rfl) ?_
    refine JZ_dup i_22_44 rfl ?_
    refine JZ_gB (key := 5) i_22_45 f_22_168 (by assumption) (by rfl) rfl hG (fun u45 v45 => ?_)
    refine JZ_aload_n i_22_48 (by rfl) ?_
    refine JZ_gB (key := 60) i_22_49 f_22_73 (by assumption) (by rfl) rfl hG (fun u49 v49 => ?_)
    refine JZ_iadd i_22_52 ?_
    refine JZ_pB (key := 5) i_22_53 f_22_168 (by assumption) (by rfl) rfl (Or.inl t_0_5) (by rfl) hG (by omega) (fun hG => ?_)
    obtain ⟨φ5, hφ5⟩ : ∃ χ, χ = jU φ (2 + 2 + b) 5 (φ (2 + 2 + b) 5 + φ (121 + i) 60) := ⟨_, rfl⟩
    rw [← hφ5] at hG
    rw [← hφ5]
    have x6 : φ5 (2 + 2 + b) 6 = φ (2 + 2 + b) 6 := by rw [hφ5]; exact jU_nk (by decide)
    have x7 : φ5 (2 + 2 + b) 7 = φ (2 + 2 + b) 7 := by rw [hφ5]; exact jU_nk (by decide)
    have x61 : φ5 (121 + i) 61 = φ (121 + i) 61 := by rw [hφ5]; exact jU_nk (by decide)
    have x62 : φ5 (121 + i) 62 = φ (121 + i) 62 := by rw [hφ5]; exact jU_nk (by decide)
    refine JZ_aload_n i_22_56 (by rfl) ?_
    refine JZ_aload_n i_22_57 (by rfl) ?_
    refine JZ_gB (key := 6) i_22_58 f_22_226 (by assumption) (by rfl) rfl hG (fun u58 v58 => ?_)
    refine JZ_aload_n i_22_61 (by rfl) ?_
    refine JZ_gB (key := 61) i_22_62 f_22_76 (by assumption) (by rfl) rfl hG (fun u62 v62 => ?_)
    refine JZ_maxz i_22_65 v_22_338 (Nat.le_of_ble_eq_true rfl) (by decide +kernel) (by omega) (by omega) (fun z65 q65 => ?_)
    refine JZ_pB (key := 6) i_22_68 f_22_226 (by assumption) (by rfl) rfl (Or.inl t_0_6) (by rfl) hG (by omega) (fun hG => ?_)
    obtain ⟨φ6, hφ6⟩ : ∃ χ, χ = jU φ5 (2 + 2 + b) 6 z65 := ⟨_, rfl⟩
    rw [← hφ6] at hG
    rw [← hφ6]
    have y7 : φ6 (2 + 2 + b) 7 = φ5 (2 + 2 + b) 7 := by rw [hφ6]; exact jU_nk (by decide)
    have y62 : φ6 (121 + i) 62 = φ5 (121 + i) 62 := by rw [hφ6]; exact jU_nk (by decide)
    refine JZ_aload_n i_22_71 (by rfl) ?_
    refine JZ_aload_n i_22_72 (by rfl) ?_
    refine JZ_gB (key := 7) i_22_73 f_22_229 (by assumption) (by rfl) rfl hG (fun u73 v73 => ?_)
    refine JZ_aload_n i_22_76 (by rfl) ?_
    refine JZ_gB (key := 62) i_22_77 f_22_79 (by assumption) (by rfl) rfl hG (fun u77 v77 => ?_)
    refine JZ_maxz i_22_80 v_22_338 (Nat.le_of_ble_eq_true rfl) (by decide +kernel) (by omega) (by omega) (fun z80 q80 => ?_)
    refine JZ_pB (key := 7) i_22_83 f_22_229 (by assumption) (by rfl) rfl (Or.inl t_0_7) (by rfl) hG (by omega) (fun hG => ?_)
    refine JZ_iinc i_22_86 (by rfl) (by rw [l_22]; decide) (by rfl) ?_
    refine JZ_goto (tg := 17) i_22_89 (by decide) ?_
    first
      | exact JZ_fg (hK () _ (q22_no hI (by omega))) (by repeat (first | exact trivial | refine ⟨rfl, ?_⟩))
      | exact JZ_fg (hK () _ (q22_yes (z1 := z65) (z2 := z80) hI (by omega) hG (by omega) (by omega) (by rw [hφ6, hφ5, w5, w60]))) (by repeat (first | exact trivial | refine ⟨rfl, ?_⟩))
  · intro u φ hI
    have hG := hI.1
    have e103 : φ 1 103 = 8 := by rw [hI.2.2.2.2 1 103 (by omega)]; exact h103
    refine JZ_iload_n i_22_17 (by rfl) ?_
    refine JZ_aload_n i_22_18 (by rfl) ?_
    refine JZ_gB (key := 103) i_22_19 f_22_68 (by assumption) (by rfl) rfl hG (fun u19 v19 => ?_)
    refine JZ_icge (tg := 92) i_22_22 (by decide) (by omega) (by omega) (fun h22 => ?_) (fun h22 => ?_)
    · refine JZ_vret i_22_92 r_22 ?_
      exact hI
    exfalso; omega
  · refine ⟨hG, ?_, ?_, ?_, fun x k hk => ?_⟩
    · simp [jU, ldW]
    · simp [jU, ldM]
    · simp [jU, ldM]
    · unfold jU; rw [if_neg (by omega), if_neg (by omega), if_neg (by omega)]
theorem m_21 {ψ : jSt} {a : Nat} (ha : jBar a) (h87 : ψ 2 87 = -1) (h3 : ψ a 3 ≤ 0) (hG : jG ψ) : JZ Eq xs L0 21 0 ([some (.ref 1), some (.ref a)] ++ List.replicate 0 none) [] ψ (oV fun ψ' => ψ' = ψ) := by
  have hT := jTow1
  have hrB := jR_rig (r := 2) (by decide)
  refine JZ_aload_n i_21_0 (by rfl) ?_
  refine JZ_gR i_21_1 f_21_10 jTow1 (by rfl) ?_
  refine JZ_gB (key := 87) i_21_4 f_21_112 (by assumption) (by rfl) rfl hG (fun u4 v4 => ?_)
  refine JZ_iconst i_21_7 ?_
  refine JZ_iceq (tg := 21) i_21_8 (by decide) (by omega) (by omega) (fun h8 => ?_) (fun h8 => ?_)
  · refine JZ_aload_n i_21_21 (by rfl) ?_
    refine JZ_gB (key := 3) i_21_22 f_21_223 (by assumption) (by rfl) rfl hG (fun u22 v22 => ?_)
    refine JZ_ifle (tg := 39) i_21_25 (by decide) (by omega) (fun h25 => ?_) (fun h25 => ?_)
    · refine JZ_vret i_21_39 r_21 ?_
      exact rfl
    exfalso; omega
  exfalso; omega
theorem m_37 {ψ : jSt} (h87 : ¬ ψ 2 87 = -1) (hG : jG ψ) : JZ Eq xs L0 37 0 ([some (.ref 1)] ++ List.replicate 0 none) [] ψ (oV fun ψ' => ψ' = ψ) := by
  have hT := jTow1
  have hrB := jR_rig (r := 2) (by decide)
  refine JZ_aload_n i_37_0 (by rfl) ?_
  refine JZ_gR i_37_1 f_37_10 jTow1 (by rfl) ?_
  refine JZ_gB (key := 87) i_37_4 f_37_112 (by assumption) (by rfl) rfl hG (fun u4 v4 => ?_)
  refine JZ_iconst i_37_7 ?_
  refine JZ_icne (tg := 22) i_37_8 (by decide) (by omega) (by omega) (fun h8 => ?_) (fun h8 => ?_)
  · refine JZ_vret i_37_22 r_37 ?_
    exact rfl
  exfalso; omega
theorem m_32 {ψ : jSt} {n : Nat} {v : Int} (hI : INV ψ n) (hv : 0 ≤ v ∧ v ≤ 5) : JZ Eq xs L0 32 0 ([some (.ref 1), some (.int (jI v))] ++ List.replicate 1 none) [] ψ (oI fun x φ => (0 ≤ x ∧ x ≤ 5) ∧ INV φ n ∧ φ 2 86 = ψ 2 86) := by
  have hT := jTow1
  have hrB := jR_rig (r := 2) (by decide)
  obtain ⟨hG, hS, hY, hR, hN, hL, i81, i83, i103, hP⟩ := id hI
  have hn8 : n ≤ 8 := by have := hS.1; omega
  refine JZ_iload_n i_32_0 (by rfl) ?_
  refine JZ_iflt (tg := 9) i_32_1 (by decide) (by omega) (fun h1 => ?_) (fun h1 => ?_)
  · exfalso; omega
  refine JZ_iload_n i_32_4 (by rfl) ?_
  refine JZ_iconst i_32_5 ?_
  refine JZ_icle (tg := 19) i_32_6 (by decide) (by omega) (by omega) (fun h6 => ?_) (fun h6 => ?_)
  · refine JZ_aload_n i_32_19 (by rfl) ?_
    refine JZ_gR i_32_20 f_32_10 jTow1 (by rfl) ?_
    refine JZ_gB (key := 84) i_32_23 f_32_148 (by assumption) (by rfl) rfl hG (fun u23 v23 => ?_)
    refine JZ_istore_n i_32_26 (by rw [l_32]; decide) (by rfl) ?_
    refine JZ_aload_n i_32_27 (by rfl) ?_
    refine JZ_gR i_32_28 f_32_10 jTow1 (by rfl) ?_
    refine JZ_iload_n i_32_31 (by rfl) ?_
    refine JZ_pB (key := 84) i_32_32 f_32_148 (by assumption) (by rfl) rfl (Or.inl t_4_4) (by rfl) hG (by omega) (fun hG => ?_)
    refine JZ_iload_n i_32_35 (by rfl) ?_
    refine JZ_iret i_32_36 r_32 ?_
    refine ⟨by have := hS.2.2.1; omega, INV_rig hI hG (fun x k q => jU_nk2 (by omega)) (by rw [jU_eq]; exact hv) (by rw [jU_nk (by decide)]; exact hY.2.2.1) (Or.inl ⟨jU_nk (by decide), jU_nk (by decide), fun q => ?_⟩), jU_nk (by decide)⟩
    rw [jU_nk (by decide)]
    exact hY.2.2.2.2.2.2.2.2.1 q
  exfalso; omega
theorem m_33 {ψ : jSt} {n b : Nat} {v w : Int} (hI : INV ψ n) (hb : b < n) (hv : v = 0 ∨ v = 1) (hw : w = 0 ∨ w = 1) : JZ Eq xs L0 33 0 ([some (.ref 1), some (.int (jI (b : Int))), some (.int (jI v)), some (.int (jI w))] ++ List.replicate 2 none) [] ψ (oI fun x φ => x = ψ (2 + 2 + b) 8 ∧ INV φ n ∧ φ 2 86 = ψ 2 86) := by
  have hT := jTow1
  have hrB := jR_rig (r := 2) (by decide)
  obtain ⟨hG, hS, hY, hR, hN, hL, i81, i83, i103, hP⟩ := id hI
  have hn8 : n ≤ 8 := by have := hS.1; omega
  have hbar := jR_bar (r := 2) (by decide) (show b < 8 by omega)
  have hbl := jSk_lt hbar
  have hsB := hS.2.2.2.1 b (by omega)
  refine JZ_aload_n i_33_0 (by rfl) ?_
  refine JZ_gR i_33_1 f_33_10 jTow1 (by rfl) ?_
  refine JZ_iload_n i_33_4 (by rfl) ?_
  refine JZ_v1A (j := 0) i_33_5 v_33_102 (by decide +kernel) rfl rfl (Nat.le_of_ble_eq_true rfl) (by assumption) rfl rfl (m_16 (r := 2) (by decide) b rfl (by omega) (by omega) hG) ?_
  refine JZ_astore i_33_8 (by rw [l_33]; decide) (by rfl) (by first | omega | (dsimp only; omega)) ?_
  refine JZ_aload i_33_10 (by rfl) ?_
  have hb8 := hsB.2.2.2.2.2.2.2.1
  refine JZ_gB (key := 8) i_33_12 f_33_151 (by assumption) (by rfl) rfl hG (fun u12 v12 => ?_)
  refine JZ_istore i_33_15 (by rw [l_33]; decide) (by rfl) ?_
  refine JZ_aload i_33_17 (by rfl) ?_
  refine JZ_iload_n i_33_19 (by rfl) ?_
  refine JZ_pB (key := 8) i_33_20 f_33_151 (by assumption) (by rfl) rfl (Or.inr ⟨t_0_8, by omega⟩) (by rfl) hG (by omega) (fun hG => ?_)
  refine JZ_aload i_33_23 (by rfl) ?_
  refine JZ_iload_n i_33_25 (by rfl) ?_
  refine JZ_pB (key := 9) i_33_26 f_33_154 (by assumption) (by rfl) rfl (Or.inr ⟨t_0_9, by omega⟩) (by rfl) hG (by omega) (fun hG => ?_)
  refine JZ_iload i_33_29 (by rfl) ?_
  refine JZ_zret i_33_31 r_33 (by omega) ?_
  refine ⟨rfl, INV_bar hb hI hG (fun x k q => by rw [jU_nk2 (by omega), jU_nk2 (by omega)]) ?_ ?_ ?_ ?_, by rw [jU_nk (by decide), jU_nk (by decide)]⟩
  · rw [jU_nk (by decide), jU_nk (by decide)]; exact hsB.2.2.2.1
  · rw [jU_nk (by decide), jU_eq]; exact hv
  · rw [jU_eq]; exact hw
  · rw [jU_nk (by decide), jU_nk (by decide)]; exact hsB.2.2.2.2.2.2.2.2.2
theorem m_41 {ψ : jSt} {n b : Nat} {v : Int} (hI : INV ψ n) (hb : b < n) (hv : v = 0 ∨ v = 1) : JZ Eq xs L0 41 0 ([some (.ref 1), some (.int (jI (b : Int))), some (.int (jI v))] ++ List.replicate 2 none) [] ψ (oI fun x φ => x = ψ (2 + 2 + b) 10 ∧ INV φ n ∧ φ 2 86 = ψ 2 86 ∧ φ (2 + 2 + b) 10 = v) := by
  have hT := jTow1
  have hrB := jR_rig (r := 2) (by decide)
  obtain ⟨hG, hS, hY, hR, hN, hL, i81, i83, i103, hP⟩ := id hI
  have hn8 : n ≤ 8 := by have := hS.1; omega
  have hbar := jR_bar (r := 2) (by decide) (show b < 8 by omega)
  have hbl := jSk_lt hbar
  have hsB := hS.2.2.2.1 b (by omega)
  refine JZ_aload_n i_41_0 (by rfl) ?_
  refine JZ_gR i_41_1 f_41_10 jTow1 (by rfl) ?_
  refine JZ_iload_n i_41_4 (by rfl) ?_
  refine JZ_v1A (j := 0) i_41_5 v_41_102 (by decide +kernel) rfl rfl (Nat.le_of_ble_eq_true rfl) (by assumption) rfl rfl (m_16 (r := 2) (by decide) b rfl (by omega) (by omega) hG) ?_
  refine JZ_astore_n i_41_8 (by rw [l_41]; decide) (by rfl) (by first | omega | (dsimp only; omega)) ?_
  refine JZ_aload_n i_41_9 (by rfl) ?_
  have hb10 := hsB.2.2.2.2.2.2.2.2.2
  refine JZ_gB (key := 10) i_41_10 f_41_207 (by assumption) (by rfl) rfl hG (fun u10 v10 => ?_)
  refine JZ_istore i_41_13 (by rw [l_41]; decide) (by rfl) ?_
  refine JZ_aload_n i_41_15 (by rfl) ?_
  refine JZ_iload_n i_41_16 (by rfl) ?_
  refine JZ_pB (key := 10) i_41_17 f_41_207 (by assumption) (by rfl) rfl (Or.inr ⟨t_0_10, by omega⟩) (by rfl) hG (by omega) (fun hG => ?_)
  refine JZ_iload i_41_20 (by rfl) ?_
  refine JZ_zret i_41_22 r_41 (by omega) ?_
  refine ⟨rfl, INV_bar hb hI hG (fun x k q => by rw [jU_nk2 (by omega)]) ?_ ?_ ?_ ?_, by rw [jU_nk (by decide)], jU_eq _ _ _ _⟩
  · rw [jU_nk (by decide)]; exact hsB.2.2.2.1
  · rw [jU_nk (by decide)]; exact hsB.2.2.2.2.2.2.2.1
  · rw [jU_nk (by decide)]; exact hsB.2.2.2.2.2.2.2.2.1
  · rw [jU_eq]; exact hv
theorem m_38 {ψ : jSt} {n : Nat} {v : Int} (hI : INV ψ n) (h87 : ¬ ψ 2 87 = -1) (hv : v = 0 ∨ v = 1) : JZ Eq xs L0 38 0 ([some (.ref 1), some (.int (jI v))] ++ List.replicate 1 none) [] ψ (oI fun x φ => x = ψ 2 88 ∧ INV φ n ∧ φ 2 86 = ψ 2 86 ∧ φ 2 88 = v) := by
  have hT := jTow1
  have hrB := jR_rig (r := 2) (by decide)
  obtain ⟨hG, hS, hY, hR, hN, hL, i81, i83, i103, hP⟩ := id hI
  have hn8 : n ≤ 8 := by have := hS.1; omega
  refine JZ_aload_n i_38_0 (by rfl) ?_
  refine JZ_v0U (j := 0) i_38_1 v_38_195 (by decide +kernel) rfl rfl (Nat.le_of_ble_eq_true rfl) (by assumption) rfl rfl (m_37 h87 hG) ?_
  refine JZ_aload_n i_38_4 (by rfl) ?_
  refine JZ_gR i_38_5 f_38_10 jTow1 (by rfl) ?_
  have h88 := hY.2.2.1
  refine JZ_gB (key := 88) i_38_8 f_38_198 (by assumption) (by rfl) rfl hG (fun u8 v8 => ?_)
  refine JZ_istore_n i_38_11 (by rw [l_38]; decide) (by rfl) ?_
  refine JZ_aload_n i_38_12 (by rfl) ?_
  refine JZ_gR i_38_13 f_38_10 jTow1 (by rfl) ?_
  refine JZ_iload_n i_38_16 (by rfl) ?_
  refine JZ_pB (key := 88) i_38_17 f_38_198 (by assumption) (by rfl) rfl (Or.inr ⟨t_4_8, by omega⟩) (by rfl) hG (by omega) (fun hG => ?_)
  refine JZ_iload_n i_38_20 (by rfl) ?_
  refine JZ_zret i_38_21 r_38 (by omega) ?_
  exact ⟨rfl, INV_rig hI hG (fun x k q => jU_nk2 (by omega)) (by rw [jU_nk (by decide)]; exact hS.2.2.1) (by rw [jU_eq]; exact hv) (Or.inl ⟨jU_nk (by decide), jU_nk (by decide), fun q => absurd q h87⟩), jU_nk (by decide), jU_eq _ _ _ _⟩
theorem m_40 {ψ : jSt} {n : Nat} (hI : INV ψ n) (h87 : ¬ ψ 2 87 = -1) : JZ Eq xs L0 40 0 ([some (.ref 1)] ++ List.replicate 1 none) [] ψ (oI fun x φ => x = opn ψ 2 ∧ INV φ n ∧ φ 2 86 = ψ 2 86 ∧ φ 2 87 = -1) := by
  have hT := jTow1
  have hrB := jR_rig (r := 2) (by decide)
  obtain ⟨hG, hS, hY, hR, hN, hL, i81, i83, i103, hP⟩ := id hI
  have hn8 : n ≤ 8 := by have := hS.1; omega
  refine JZ_aload_n i_40_0 (by rfl) ?_
  refine JZ_v0U (j := 0) i_40_1 v_40_195 (by decide +kernel) rfl rfl (Nat.le_of_ble_eq_true rfl) (by assumption) rfl rfl (m_37 h87 hG) ?_
  refine JZ_aload_n i_40_4 (by rfl) ?_
  refine JZ_gR i_40_5 f_40_10 jTow1 (by rfl) ?_
  refine JZ_v0P (j := 0) i_40_8 v_40_201 (by decide +kernel) rfl rfl (Nat.le_of_ble_eq_true rfl) (by assumption) rfl rfl (m_13 (r := 2) (by decide) hY.2.1 hS.2.1.2 (fun c hc => (hS.2.2.2.2.1 c hc).1) hG) (fun x8 hq8 => ?_)
  refine JZ_istore_n i_40_11 (by rw [l_40]; decide) (by rfl) ?_
  refine JZ_aload_n i_40_12 (by rfl) ?_
  refine JZ_gR i_40_13 f_40_10 jTow1 (by rfl) ?_
  refine JZ_v0V (j := 0) i_40_16 v_40_204 (by decide +kernel) rfl rfl (Nat.le_of_ble_eq_true rfl) (by assumption) rfl rfl (m_39 (r := 2) (by decide) hG) (fun φ hQ16 => ?_)
  obtain ⟨hG, hφ⟩ := hQ16
  refine JZ_iload_n i_40_19 (by rfl) ?_
  refine JZ_iret i_40_20 r_40 ?_
  refine ⟨hq8, ?_, by rw [hφ]; simp [jU], by rw [hφ]; simp [jU]⟩
  exact INV_rig hI hG (fun x k q => by rw [hφ, jU_nk2 (by omega), jU_nk2 (by omega), jU_nk2 (by omega)]) (by rw [hφ, jU_nk (by decide), jU_nk (by decide), jU_nk (by decide)]; exact hS.2.2.1) (by rw [hφ]; simp [jU]) (Or.inr ⟨by rw [hφ]; simp [jU], by rw [hφ]; simp [jU], by rw [hφ]; simp [jU]⟩)
theorem m_25 {ψ : jSt} {n b : Nat} {v : Int} (hI : INV ψ n) (hb : b < n) (hv : 0 ≤ v ∧ v ≤ 300) (h87 : ψ 2 87 = -1) (h3 : ψ (2 + 2 + b) 3 = 0) (h1 : ψ (2 + 2 + b) 1 = 0) : JZ Eq xs L0 25 0 ([some (.ref 1), some (.int (jI (b : Int))), some (.int (jI v))] ++ List.replicate 1 none) [] ψ (oI fun x φ => x = ψ (2 + 2 + b) 5 - v ∧ INV φ n ∧ φ 2 86 = ψ 2 86 ∧ φ (2 + 2 + b) 5 = ψ (2 + 2 + b) 5) := by
  have hT := jTow1
  have hrB := jR_rig (r := 2) (by decide)
  obtain ⟨hG, hS, hY, hR, hN, hL, i81, i83, i103, hP⟩ := id hI
  have hn8 : n ≤ 8 := by have := hS.1; omega
  have hbar := jR_bar (r := 2) (by decide) (show b < 8 by omega)
  have hbl := jSk_lt hbar
  have hsB := hS.2.2.2.1 b (by omega)
  refine JZ_aload_n i_25_0 (by rfl) ?_
  refine JZ_gR i_25_1 f_25_10 jTow1 (by rfl) ?_
  refine JZ_iload_n i_25_4 (by rfl) ?_
  refine JZ_v1A (j := 0) i_25_5 v_25_102 (by decide +kernel) rfl rfl (Nat.le_of_ble_eq_true rfl) (by assumption) rfl rfl (m_16 (r := 2) (by decide) b rfl (by omega) (by omega) hG) ?_
  refine JZ_astore_n i_25_8 (by rw [l_25]; decide) (by rfl) (by first | omega | (dsimp only; omega)) ?_
  refine JZ_iload_n i_25_9 (by rfl) ?_
  refine JZ_iflt (tg := 20) i_25_10 (by decide) (by omega) (fun h10 => ?_) (fun h10 => ?_)
  · exfalso; omega
  refine JZ_iload_n i_25_13 (by rfl) ?_
  refine JZ_sipush i_25_14 (by decide) ?_
  refine JZ_icle (tg := 30) i_25_17 (by decide) (by omega) (by omega) (fun h17 => ?_) (fun h17 => ?_)
  · refine JZ_aload_n i_25_30 (by rfl) ?_
    refine JZ_gB (key := 1) i_25_31 f_25_50 (by assumption) (by rfl) rfl hG (fun u31 v31 => ?_)
    refine JZ_ifeq (tg := 47) i_25_34 (by decide) (by omega) (fun h34 => ?_) (fun h34 => ?_)
    · refine JZ_aload_n i_25_47 (by rfl) ?_
      refine JZ_aload_n i_25_48 (by rfl) ?_
      refine JZ_v1U (j := 0) i_25_49 v_25_164 (by decide +kernel) rfl rfl (Nat.le_of_ble_eq_true rfl) (by assumption) (by first | rfl | (simp only [List.all_cons, List.all_nil, g_ok, Bool.and_true, Bool.true_and, Bool.and_eq_true, decide_eq_true_eq] <;> first | assumption | exact ⟨by assumption, by assumption⟩ | exact ⟨by assumption, by assumption, by assumption⟩ | omega)) rfl (m_21 hbar h87 (by omega) hG) ?_
      refine JZ_aload_n i_25_52 (by rfl) ?_
      refine JZ_iload_n i_25_53 (by rfl) ?_
      refine JZ_pB (key := 4) i_25_54 f_25_182 (by assumption) (by rfl) rfl (Or.inl t_0_4) (by rfl) hG (by omega) (fun hG => ?_)
      refine JZ_aload_n i_25_57 (by rfl) ?_
      refine JZ_v0P (j := 0) i_25_58 v_25_185 (by decide +kernel) rfl rfl (Nat.le_of_ble_eq_true rfl) (by assumption) rfl rfl (m_17 hbar hG) (fun x58 hq58 => ?_)
      refine JZ_iret i_25_61 r_25 ?_
      refine ⟨?_, INV_bar hb hI hG (fun x k q => by rw [jU_nk2 (by omega)]) ?_ ?_ ?_ ?_, by rw [jU_nk (by decide)], jU_nk (by decide)⟩
      · rw [hq58]; unfold bdf; rw [jU_nk (by decide), if_pos h1, jU_nk (by decide), jU_eq]
      · rw [jU_eq]; exact hv
      · rw [jU_nk (by decide)]; exact hsB.2.2.2.2.2.2.2.1
      · rw [jU_nk (by decide)]; exact hsB.2.2.2.2.2.2.2.2.1
      · rw [jU_nk (by decide)]; exact hsB.2.2.2.2.2.2.2.2.2
    exfalso; omega
  exfalso; omega
theorem m_23 {ψ : jSt} {n b p : Nat} (hI : INV ψ n) (hb : b < n) (hp : p < 8) (h87 : ψ 2 87 = -1) (h3 : ψ (2 + 2 + b) 3 = 0) (h63 : ψ (121 + p) 63 = -1) (hld : ψ (2 + 2 + b) 5 + ψ (121 + p) 60 ≤ ψ (2 + 2 + b) 2) : JZ Eq xs L0 23 0 ([some (.ref 1), some (.int (jI (p : Int))), some (.int (jI (b : Int)))] ++ List.replicate 2 none) [] ψ (oI fun x φ => x = ψ (2 + 2 + b) 5 + ψ (121 + p) 60 ∧ INV φ n ∧ φ 2 86 = ψ 2 86 ∧ φ (121 + p) 63 = (b : Int)) := by
  have hT := jTow1
  have hrB := jR_rig (r := 2) (by decide)
  obtain ⟨hG, hS, hY, hR, hN, hL, i81, i83, i103, hP⟩ := id hI
  have hn8 : n ≤ 8 := by have := hS.1; omega
  have hbar := jR_bar (r := 2) (by decide) (show b < 8 by omega)
  have hbl := jSk_lt hbar
  have hsB := hS.2.2.2.1 b (by omega)
  have hpi := jR_piece (show p < 10 by omega)
  have hpl := jSk_lt hpi
  have hpp := (hP p hp).1.1
  refine JZ_aload_n i_23_0 (by rfl) ?_
  refine JZ_iload_n i_23_1 (by rfl) ?_
  refine JZ_v1A (j := 0) i_23_2 v_23_157 (by decide +kernel) rfl rfl (Nat.le_of_ble_eq_true rfl) (by assumption) rfl rfl (m_19 p rfl (by omega) (by omega) hG) ?_
  refine JZ_astore_n i_23_5 (by rw [l_23]; decide) (by rfl) (by first | omega | (dsimp only; omega)) ?_
  refine JZ_aload_n i_23_6 (by rfl) ?_
  refine JZ_gR i_23_7 f_23_10 jTow1 (by rfl) ?_
  refine JZ_iload_n i_23_10 (by rfl) ?_
  refine JZ_v1A (j := 0) i_23_11 v_23_102 (by decide +kernel) rfl rfl (Nat.le_of_ble_eq_true rfl) (by assumption) rfl rfl (m_16 (r := 2) (by decide) b rfl (by omega) (by omega) hG) ?_
  refine JZ_astore i_23_14 (by rw [l_23]; decide) (by rfl) (by first | omega | (dsimp only; omega)) ?_
  refine JZ_aload_n i_23_16 (by rfl) ?_
  refine JZ_gB (key := 63) i_23_17 f_23_161 (by assumption) (by rfl) rfl hG (fun u17 v17 => ?_)
  refine JZ_iconst i_23_20 ?_
  refine JZ_iceq (tg := 34) i_23_21 (by decide) (by omega) (by omega) (fun h21 => ?_) (fun h21 => ?_)
  · refine JZ_aload_n i_23_34 (by rfl) ?_
    refine JZ_aload i_23_35 (by rfl) ?_
    refine JZ_v1U (j := 0) i_23_37 v_23_164 (by decide +kernel) rfl rfl (Nat.le_of_ble_eq_true rfl) (by assumption) (by first | rfl | (simp only [List.all_cons, List.all_nil, g_ok, Bool.and_true, Bool.true_and, Bool.and_eq_true, decide_eq_true_eq] <;> first | assumption | exact ⟨by assumption, by assumption⟩ | exact ⟨by assumption, by assumption, by assumption⟩ | omega)) rfl (m_21 hbar h87 (by omega) hG) ?_
    refine JZ_aload i_23_40 (by rfl) ?_
    refine JZ_gB (key := 5) i_23_42 f_23_168 (by assumption) (by rfl) rfl hG (fun u42 v42 => ?_)
    refine JZ_aload_n i_23_45 (by rfl) ?_
    refine JZ_gB (key := 60) i_23_46 f_23_73 (by assumption) (by rfl) rfl hG (fun u46 v46 => ?_)
    refine JZ_iadd i_23_49 ?_
    refine JZ_aload i_23_50 (by rfl) ?_
    refine JZ_gB (key := 2) i_23_52 f_23_56 (by assumption) (by rfl) rfl hG (fun u52 v52 => ?_)
    refine JZ_icle (tg := 68) i_23_55 (by decide) (by omega) (by omega) (fun h55 => ?_) (fun h55 => ?_)
    · refine JZ_aload_n i_23_68 (by rfl) ?_
      refine JZ_aload i_23_69 (by rfl) ?_
      refine JZ_gB (key := 0) i_23_71 f_23_59 (by assumption) (by rfl) rfl hG (fun u71 v71 => ?_)
      refine JZ_pB (key := 63) i_23_74 f_23_161 (by assumption) (by rfl) rfl (Or.inl t_3_3) (by rfl) hG (by omega) (fun hG => ?_)
      obtain ⟨φ1, hφ1⟩ : ∃ χ, χ = jU ψ (121 + p) 63 (ψ (2 + 2 + b) 0) := ⟨_, rfl⟩
      rw [← hφ1] at hG
      rw [← hφ1]
      refine JZ_aload_n i_23_77 (by rfl) ?_
      refine JZ_aload i_23_78 (by rfl) ?_
      refine JZ_v1V (j := 2) i_23_80 v_23_173 (by decide +kernel) rfl rfl (Nat.le_of_ble_eq_true rfl) (by assumption) (by first | rfl | (simp only [List.all_cons, List.all_nil, g_ok, Bool.and_true, Bool.true_and, Bool.and_eq_true, decide_eq_true_eq] <;> first | assumption | exact ⟨by assumption, by assumption⟩ | exact ⟨by assumption, by assumption, by assumption⟩ | omega)) rfl (m_22 b (by omega) (by rw [hφ1, jU_nk (by decide)]; exact hsB.1) (by rw [hφ1, jU_nk (by decide)]; exact i103) (fun p' hp' => by unfold pcR; rw [hφ1, jU_nk (by decide), jU_nk (by decide), jU_nk (by decide)]; exact (hP p' hp').1) hG) (fun φ2 hQ80 => ?_)
      have hG := hQ80.1
      have w63 : φ1 (121 + p) 63 = (b : Int) := by rw [hφ1, jU_eq]; exact hsB.1
      have wne : ∀ a, ¬ a = 121 + p → φ1 a 63 = ψ a 63 := fun a q => by rw [hφ1, jU_na q]
      have wk : ∀ a k, ¬ k = 63 → φ1 a k = ψ a k := fun a k q => by rw [hφ1, jU_nk q]
      have hl := hL b hb
      have hw8 : ldW φ1 (b : Int) 8 = ψ (2 + 2 + b) 5 + ψ (121 + p) 60 := by rw [ldW_on (fun a => wk a 60 (by decide)) wne (by omega) w63, if_pos hp, ← hl.1]
      have e2 : ∀ x, φ2 (121 + x) 63 = φ1 (121 + x) 63 := fun x => hQ80.2.2.2.2 _ _ (by omega)
      have c1 : ldW φ2 (b : Int) 8 = ldW φ1 (b : Int) 8 := ldW_eq fun p' _ => ⟨hQ80.2.2.2.2 _ _ (by omega), hQ80.2.2.2.2 _ _ (by omega)⟩
      have c2 : ldM φ2 61 (b : Int) 8 = ldM φ1 61 (b : Int) 8 := ldM_eq fun p' _ => ⟨hQ80.2.2.2.2 _ _ (by omega), hQ80.2.2.2.2 _ _ (by omega)⟩
      have c3 : ldM φ2 62 (b : Int) 8 = ldM φ1 62 (b : Int) 8 := ldM_eq fun p' _ => ⟨hQ80.2.2.2.2 _ _ (by omega), hQ80.2.2.2.2 _ _ (by omega)⟩
      have hINV : INV φ2 n := INV_load (p := p) hb hI hG (fun x k q1 q2 => by rw [hQ80.2.2.2.2 x k q1, hφ1, jU_nk2 (by omega)]) (Or.inl ⟨h63, by rw [hQ80.2.2.2.2 _ _ (by omega), w63]⟩) (by rw [hQ80.2.1, c1]) (by rw [hQ80.2.2.1, c2]) (by rw [hQ80.2.2.2.1, c3]) (by rw [c1, hw8]; exact hld)
      refine JZ_aload i_23_83 (by rfl) ?_
      refine JZ_gB (key := 5) i_23_85 f_23_168 (by assumption) (by rfl) rfl hG (fun u85 v85 => ?_)
      refine JZ_iret i_23_88 r_23 ?_
      exact ⟨by rw [hQ80.2.1, hw8], hINV, by rw [hQ80.2.2.2.2 _ _ (by omega), hφ1, jU_nk (by decide)], by rw [hQ80.2.2.2.2 _ _ (by omega), w63]⟩
    exfalso; omega
  exfalso; omega
theorem ldW_off2 {ψ φ : jSt} {b : Int} {p : Nat} (hpw : 0 ≤ ψ (121 + p) 60) (h60 : ∀ a, φ a 60 = ψ a 60) (hne : ∀ a, ¬ a = 121 + p → φ a 63 = ψ a 63) (h1 : ψ (121 + p) 63 = b) (h2 : ¬ φ (121 + p) 63 = b) : ∀ k, ldW φ b k ≤ ldW ψ b k := fun k => by
  have h := ldW_on (ψ := φ) (φ := ψ) (b := b) (p := p) (fun a => (h60 a).symm) (fun a q => (hne a q).symm) h2 h1 k
  rw [h, h60]
  split <;> omega
theorem m_24 {ψ : jSt} {n b p : Nat} (hI : INV ψ n) (hb : b < n) (hp : p < 8) (h87 : ψ 2 87 = -1) (h3 : ψ (2 + 2 + b) 3 = 0) (h63 : ψ (121 + p) 63 = (b : Int)) : JZ Eq xs L0 24 0 ([some (.ref 1), some (.int (jI (p : Int)))] ++ List.replicate 2 none) [] ψ (oI fun x φ => x = (b : Int) ∧ INV φ n ∧ φ 2 86 = ψ 2 86 ∧ φ (121 + p) 63 = -1) := by
  have hT := jTow1
  have hrB := jR_rig (r := 2) (by decide)
  obtain ⟨hG, hS, hY, hR, hN, hL, i81, i83, i103, hP⟩ := id hI
  have hn8 : n ≤ 8 := by have := hS.1; omega
  have hbar := jR_bar (r := 2) (by decide) (show b < 8 by omega)
  have hbl := jSk_lt hbar
  have hsB := hS.2.2.2.1 b (by omega)
  have hpi := jR_piece (show p < 10 by omega)
  have hpl := jSk_lt hpi
  have hpp := (hP p hp).1.1
  refine JZ_aload_n i_24_0 (by rfl) ?_
  refine JZ_iload_n i_24_1 (by rfl) ?_
  refine JZ_v1A (j := 0) i_24_2 v_24_157 (by decide +kernel) rfl rfl (Nat.le_of_ble_eq_true rfl) (by assumption) rfl rfl (m_19 p rfl (by omega) (by omega) hG) ?_
  refine JZ_astore_n i_24_5 (by rw [l_24]; decide) (by rfl) (by first | omega | (dsimp only; omega)) ?_
  refine JZ_aload_n i_24_6 (by rfl) ?_
  refine JZ_gB (key := 63) i_24_7 f_24_161 (by assumption) (by rfl) rfl hG (fun u7 v7 => ?_)
  refine JZ_iconst i_24_10 ?_
  refine JZ_icne (tg := 24) i_24_11 (by decide) (by omega) (by omega) (fun h11 => ?_) (fun h11 => ?_)
  · refine JZ_aload_n i_24_24 (by rfl) ?_
    refine JZ_gR i_24_25 f_24_10 jTow1 (by rfl) ?_
    refine JZ_aload_n i_24_28 (by rfl) ?_
    refine JZ_gB (key := 63) i_24_29 f_24_161 (by assumption) (by rfl) rfl hG (fun u29 v29 => ?_)
    refine JZ_v1A (j := 0) i_24_32 v_24_102 (by decide +kernel) rfl rfl (Nat.le_of_ble_eq_true rfl) (by assumption) rfl rfl (m_16 (r := 2) (by decide) b h63 (by omega) (by omega) hG) ?_
    refine JZ_astore_n i_24_35 (by rw [l_24]; decide) (by rfl) (by first | omega | (dsimp only; omega)) ?_
    refine JZ_aload_n i_24_36 (by rfl) ?_
    refine JZ_aload_n i_24_37 (by rfl) ?_
    refine JZ_v1U (j := 0) i_24_38 v_24_164 (by decide +kernel) rfl rfl (Nat.le_of_ble_eq_true rfl) (by assumption) (by first | rfl | (simp only [List.all_cons, List.all_nil, g_ok, Bool.and_true, Bool.true_and, Bool.and_eq_true, decide_eq_true_eq] <;> first | assumption | exact ⟨by assumption, by assumption⟩ | exact ⟨by assumption, by assumption, by assumption⟩ | omega)) rfl (m_21 hbar h87 (by omega) hG) ?_
    refine JZ_aload_n i_24_41 (by rfl) ?_
    refine JZ_iconst i_24_42 ?_
    refine JZ_pB (key := 63) i_24_43 f_24_161 (by assumption) (by rfl) rfl (Or.inl t_3_3) (by rfl) hG (by omega) (fun hG => ?_)
    obtain ⟨φ1, hφ1⟩ : ∃ χ, χ = jU ψ (121 + p) 63 (-1) := ⟨_, rfl⟩
    rw [← hφ1] at hG
    rw [← hφ1]
    refine JZ_aload_n i_24_46 (by rfl) ?_
    refine JZ_aload_n i_24_47 (by rfl) ?_
    refine JZ_v1V (j := 2) i_24_48 v_24_173 (by decide +kernel) rfl rfl (Nat.le_of_ble_eq_true rfl) (by assumption) (by first | rfl | (simp only [List.all_cons, List.all_nil, g_ok, Bool.and_true, Bool.true_and, Bool.and_eq_true, decide_eq_true_eq] <;> first | assumption | exact ⟨by assumption, by assumption⟩ | exact ⟨by assumption, by assumption, by assumption⟩ | omega)) rfl (m_22 b (by omega) (by rw [hφ1, jU_nk (by decide)]; exact hsB.1) (by rw [hφ1, jU_nk (by decide)]; exact i103) (fun p' hp' => by unfold pcR; rw [hφ1, jU_nk (by decide), jU_nk (by decide), jU_nk (by decide)]; exact (hP p' hp').1) hG) (fun φ2 hQ80 => ?_)
    have hG := hQ80.1
    have w63 : φ1 (121 + p) 63 = -1 := by rw [hφ1, jU_eq]
    have wne : ∀ a, ¬ a = 121 + p → φ1 a 63 = ψ a 63 := fun a q => by rw [hφ1, jU_na q]
    have wk : ∀ a k, ¬ k = 63 → φ1 a k = ψ a k := fun a k q => by rw [hφ1, jU_nk q]
    have hl := hL b hb
    have hw8 : ldW φ1 (b : Int) 8 ≤ ldW ψ (b : Int) 8 := ldW_off2 hpp.1 (fun a => wk a 60 (by decide)) wne h63 (by omega) 8
    have c1 : ldW φ2 (b : Int) 8 = ldW φ1 (b : Int) 8 := ldW_eq fun p' _ => ⟨hQ80.2.2.2.2 _ _ (by omega), hQ80.2.2.2.2 _ _ (by omega)⟩
    have c2 : ldM φ2 61 (b : Int) 8 = ldM φ1 61 (b : Int) 8 := ldM_eq fun p' _ => ⟨hQ80.2.2.2.2 _ _ (by omega), hQ80.2.2.2.2 _ _ (by omega)⟩
    have c3 : ldM φ2 62 (b : Int) 8 = ldM φ1 62 (b : Int) 8 := ldM_eq fun p' _ => ⟨hQ80.2.2.2.2 _ _ (by omega), hQ80.2.2.2.2 _ _ (by omega)⟩
    have hINV : INV φ2 n := INV_load (p := p) hb hI hG (fun x k q1 q2 => by rw [hQ80.2.2.2.2 x k q1, hφ1, jU_nk2 (by omega)]) (Or.inr ⟨h63, by rw [hQ80.2.2.2.2 _ _ (by omega), w63]⟩) (by rw [hQ80.2.1, c1]) (by rw [hQ80.2.2.1, c2]) (by rw [hQ80.2.2.2.1, c3]) (by rw [c1]; omega)
    refine JZ_aload_n i_24_51 (by rfl) ?_
    refine JZ_gB (key := 0) i_24_52 f_24_59 (by assumption) (by rfl) rfl hG (fun u52 v52 => ?_)
    refine JZ_iret i_24_55 r_24 ?_
    exact ⟨by rw [hQ80.2.2.2.2 _ 0 (by omega), hφ1, jU_nk (by decide)]; exact hsB.1, hINV, by rw [hQ80.2.2.2.2 _ _ (by omega), hφ1, jU_nk (by decide)], by rw [hQ80.2.2.2.2 _ _ (by omega), w63]⟩
  exfalso; omega
end P37
