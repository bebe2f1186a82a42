/-! the law: one second -/
theorem LW_nm {xs : Nat → Int32} {L0 y pc : Nat} {L : List (Option Value)} {st : List Value} {ψ : jSt} {X : gM} {P : Int → jSt → gM → Prop} (h : ∀ X', X' = X → LW xs L0 y pc L st ψ X' P) : LW xs L0 y pc L st ψ X P := h X rfl
theorem nbk_le (ψ : jSt) (r : Nat) : ∀ k, 0 ≤ nbk ψ r k ∧ nbk ψ r k ≤ k
  | 0 => ⟨Int.le_refl _, Int.le_refl _⟩
  | k + 1 => by
    have ih := nbk_le ψ r k
    show 0 ≤ nbk ψ r k + _ ∧ nbk ψ r k + _ ≤ _
    split <;> omega
theorem opn_6 {ψ : jSt} {r : Nat} (hS : jS ψ r) (hY : jY ψ r) : opn ψ r ≤ 6 := by
  unfold opn
  split
  · decide
  · next q =>
    have h87 := hY.2.1
    have h83 := hS.2.1
    obtain ⟨c, hc⟩ := Int.eq_ofNat_of_zero_le (show 0 ≤ ψ r 87 by omega)
    have h1 := (hS.2.2.2.2.1 c (by omega)).1
    have h2 := (opc_nn ψ (r + 13 + 8 * (ψ r 87).toNat) (ψ (r + 11 + 8 * (ψ r 87).toNat) 21).toNat).2
    rw [hc, Int.toNat_natCast] at h2 ⊢
    omega
theorem INV_sec {ψ φ : jSt} {n : Nat} (hI : INV ψ n) (h : SEC ψ 2 n φ) : INV φ n := by
  obtain ⟨_, hS, hY, hR, hN, hL, i81, i83, i103, hP⟩ := hI
  obtain ⟨hG, hF, hY', _⟩ := h
  have hk : ∀ x k, ¬ (k = 3 ∨ k = 11 ∨ k = 12 ∨ k = 44 ∨ k = 45 ∨ (85 ≤ k ∧ k ≤ 97)) → φ x k = ψ x k := fun x k q => jD_key hF q
  refine ⟨hG, jS_fr (fun a k q => hk a k q) hS, hY', RS_keys (fun a k k1 k2 => hF a k ?_) (hk _ _ (by decide)) (hk _ _ (by decide)) hR, fun c m hc hm hq => ?_, LD_keys (fun a k q => hk a k (by omega)) hL, by rw [hk _ _ (by decide)]; exact i81, by rw [hk _ _ (by decide)]; exact i83, by rw [hk _ _ (by decide)]; exact i103, fun p hp => by unfold pcR; rw [hk _ 60 (by decide), hk _ 61 (by decide), hk _ 62 (by decide), hk _ 63 (by decide)]; exact hP p hp⟩
  · have s81 := hS.1
    rintro (q | ⟨b, h1, h2, h3⟩ | ⟨c, m, h1, h2, h3, h4⟩)
    · omega
    · omega
    · have h6 := (hS.2.2.2.2.1 c (by have := hS.2.1; omega)).1
      have := hS.2.1
      omega
  · rw [hk _ 21 (by decide)] at hq
    have hno : ∀ k, ¬ jD ψ 2 (2 + 13 + 8 * c + m) k ∨ ¬ (k = 44 ∨ k = 45) := fun k => by
      by_cases q : k = 44 ∨ k = 45
      · refine Or.inl ?_
        rintro (q2 | ⟨b, h1, h2, h3⟩ | ⟨c2, m2, h1, h2, h3, h4⟩)
        · omega
        · omega
        · have h83 := hS.2.1
          have h6 := (hS.2.2.2.2.1 c2 (by omega)).1
          have e : c2 = c := by omega
          subst e
          omega
      · exact Or.inr q
    rw [hF _ 44 (by rcases hno 44 with q | q; exact q; exact absurd (Or.inl rfl) q), hF _ 45 (by rcases hno 45 with q | q; exact q; exact absurd (Or.inr rfl) q)]
    exact hN c m hc hm hq
/-! masks -/
theorem mbit_T : (List.range 256).all (fun m => (List.range 8).all fun k => decide ((jI (m : Int) >>> (jI (k : Int) &&& 31)) &&& jI 1 = jI ((m / 2 ^ k % 2 : Nat) : Int))) = true := by decide +kernel
theorem mset_T : (List.range 8).all (fun d => (List.range (2 ^ d)).all fun m => decide ((m + 2 ^ d) / 2 ^ d % 2 = 1) && (decide (m / 2 ^ d % 2 = 0) && (List.range d).all fun k => decide ((m + 2 ^ d) / 2 ^ k % 2 = m / 2 ^ k % 2))) = true := by decide +kernel
theorem mbit {m k : Nat} (hm : m < 256) (hk : k < 8) : (jI (m : Int) >>> (jI (k : Int) &&& 31)) &&& jI 1 = jI ((m / 2 ^ k % 2 : Nat) : Int) :=
  of_decide_eq_true (List.all_eq_true.mp (List.all_eq_true.mp mbit_T m (List.mem_range.mpr hm)) k (List.mem_range.mpr hk))
def MK (ψ : jSt) (k d m : Nat) : Prop := m < 2 ^ d ∧ ∀ j, j < d → (m / 2 ^ j % 2 = 1 ↔ btc ψ (2 + 2 + k) (ψ (2 + 2 + k) 3) (2 + 2 + j))
theorem MK_zero {ψ : jSt} {k : Nat} : MK ψ k 0 0 := ⟨by decide, fun j hj => absurd hj (Nat.not_lt_zero j)⟩
theorem MK_no {ψ : jSt} {k d m : Nat} (hd : d < 8) (h : MK ψ k d m) (hn : ¬ btc ψ (2 + 2 + k) (ψ (2 + 2 + k) 3) (2 + 2 + d)) : MK ψ k (d + 1) m := by
  obtain ⟨h1, h2⟩ := h
  have h9 := List.all_eq_true.mp (List.all_eq_true.mp mset_T d (List.mem_range.mpr hd)) m (List.mem_range.mpr h1)
  simp only [Bool.and_eq_true, decide_eq_true_eq] at h9
  refine ⟨Nat.lt_of_lt_of_le h1 (Nat.pow_le_pow_right (by decide) (Nat.le_succ d)), fun j hj => ?_⟩
  rcases Nat.lt_or_eq_of_le (Nat.lt_succ_iff.mp hj) with hj | rfl
  · exact h2 j hj
  · rw [h9.2.1]
    exact ⟨fun q => absurd q (by decide), fun q => absurd q hn⟩
theorem MK_yes {ψ : jSt} {k d m : Nat} (hd : d < 8) (h : MK ψ k d m) (hy : btc ψ (2 + 2 + k) (ψ (2 + 2 + k) 3) (2 + 2 + d)) : MK ψ k (d + 1) (m + 2 ^ d) := by
  obtain ⟨h1, h2⟩ := h
  have h9 := List.all_eq_true.mp (List.all_eq_true.mp mset_T d (List.mem_range.mpr hd)) m (List.mem_range.mpr h1)
  simp only [Bool.and_eq_true, decide_eq_true_eq] at h9
  refine ⟨by rw [Nat.pow_succ]; omega, fun j hj => ?_⟩
  rcases Nat.lt_or_eq_of_le (Nat.lt_succ_iff.mp hj) with hj | rfl
  · rw [of_decide_eq_true (List.all_eq_true.mp h9.2.2 j (List.mem_range.mpr hj))]
    exact h2 j hj
  · exact ⟨fun _ => hy, fun _ => h9.1⟩
theorem MK_256 {ψ : jSt} {k d m : Nat} (hd : d ≤ 8) (h : MK ψ k d m) : m < 256 := Nat.lt_of_lt_of_le h.1 (Nat.pow_le_pow_right (by decide) hd)
/-! the four rows of a second -/
abbrev jAr (n : Nat) (f : Nat → Int32) : Option gE := some (.inr (0, n, .inl f))
def AS (A n : Nat) (pl : Option gE) (X : gM) (f1 f2 f3 f4 : Nat → Int32) : Prop := X.1 = A + 4 ∧ X.2 A = jAr n f1 ∧ X.2 (A + 1) = jAr n f2 ∧ X.2 (A + 2) = jAr n f3 ∧ X.2 (A + 3) = jAr 5 f4 ∧ X.2 131 = pl
theorem AS_init {X X4 : gM} {n : Nat} {pl : Option gE} (hX : 132 ≤ X.1) (hpl : X.2 131 = pl) (e : X4 = (X.1 + 1 + 1 + 1 + 1, va_up (va_up (va_up (va_up X.2 X.1 (jAr n (fun _ => 0))) (X.1 + 1) (jAr n (fun _ => 0))) (X.1 + 1 + 1) (jAr n (fun _ => 0))) (X.1 + 1 + 1 + 1) (jAr 5 (fun _ => 0)))) : AS X.1 n pl X4 (fun _ => 0) (fun _ => 0) (fun _ => 0) (fun _ => 0) := by
  subst e
  refine ⟨rfl, ?_, ?_, ?_, ?_, ?_⟩
  · show va_up _ _ _ X.1 = _
    unfold va_up
    rw [if_neg (by omega), if_neg (by omega), if_neg (by omega), if_pos rfl]
  · show va_up _ _ _ (X.1 + 1) = _
    unfold va_up
    rw [if_neg (by omega), if_neg (by omega), if_pos rfl]
  · show va_up _ _ _ (X.1 + 2) = _
    unfold va_up
    rw [if_neg (by omega), if_pos (by omega)]
  · show va_up _ _ _ (X.1 + 3) = _
    unfold va_up
    rw [if_pos (by omega)]
  · show va_up _ _ _ 131 = _
    unfold va_up
    rw [if_neg (by omega), if_neg (by omega), if_neg (by omega), if_neg (by omega)]
    exact hpl
theorem AS_1 {A n : Nat} {pl : Option gE} {X : gM} {f1 f2 f3 f4 f : Nat → Int32} (hA : 132 ≤ A) (h : AS A n pl X f1 f2 f3 f4) : AS A n pl (X.1, va_up X.2 A (some (.inr (0, n, .inl f)))) f f2 f3 f4 := by
  obtain ⟨h0, h1, h2, h3, h4, h5⟩ := h
  refine ⟨h0, ?_, ?_, ?_, ?_, ?_⟩
  · show va_up _ _ _ A = _
    unfold va_up
    rw [if_pos rfl]
  · show va_up _ _ _ (A + 1) = _
    unfold va_up
    rw [if_neg (by omega)]
    exact h2
  · show va_up _ _ _ (A + 2) = _
    unfold va_up
    rw [if_neg (by omega)]
    exact h3
  · show va_up _ _ _ (A + 3) = _
    unfold va_up
    rw [if_neg (by omega)]
    exact h4
  · show va_up _ _ _ 131 = _
    unfold va_up
    rw [if_neg (by omega)]
    exact h5
theorem AS_2 {A n : Nat} {pl : Option gE} {X : gM} {f1 f2 f3 f4 f : Nat → Int32} (hA : 132 ≤ A) (h : AS A n pl X f1 f2 f3 f4) : AS A n pl (X.1, va_up X.2 (A + 1) (some (.inr (0, n, .inl f)))) f1 f f3 f4 := by
  obtain ⟨h0, h1, h2, h3, h4, h5⟩ := h
  refine ⟨h0, ?_, ?_, ?_, ?_, ?_⟩
  · show va_up _ _ _ A = _
    unfold va_up
    rw [if_neg (by omega)]
    exact h1
  · show va_up _ _ _ (A + 1) = _
    unfold va_up
    rw [if_pos rfl]
  · show va_up _ _ _ (A + 2) = _
    unfold va_up
    rw [if_neg (by omega)]
    exact h3
  · show va_up _ _ _ (A + 3) = _
    unfold va_up
    rw [if_neg (by omega)]
    exact h4
  · show va_up _ _ _ 131 = _
    unfold va_up
    rw [if_neg (by omega)]
    exact h5
theorem AS_3 {A n : Nat} {pl : Option gE} {X : gM} {f1 f2 f3 f4 f : Nat → Int32} (hA : 132 ≤ A) (h : AS A n pl X f1 f2 f3 f4) : AS A n pl (X.1, va_up X.2 (A + 2) (some (.inr (0, n, .inl f)))) f1 f2 f f4 := by
  obtain ⟨h0, h1, h2, h3, h4, h5⟩ := h
  refine ⟨h0, ?_, ?_, ?_, ?_, ?_⟩
  · show va_up _ _ _ A = _
    unfold va_up
    rw [if_neg (by omega)]
    exact h1
  · show va_up _ _ _ (A + 1) = _
    unfold va_up
    rw [if_neg (by omega)]
    exact h2
  · show va_up _ _ _ (A + 2) = _
    unfold va_up
    rw [if_pos rfl]
  · show va_up _ _ _ (A + 3) = _
    unfold va_up
    rw [if_neg (by omega)]
    exact h4
  · show va_up _ _ _ 131 = _
    unfold va_up
    rw [if_neg (by omega)]
    exact h5
theorem AS_4 {A n : Nat} {pl : Option gE} {X : gM} {f1 f2 f3 f4 f : Nat → Int32} (hA : 132 ≤ A) (h : AS A n pl X f1 f2 f3 f4) : AS A n pl (X.1, va_up X.2 (A + 3) (some (.inr (0, 5, .inl f)))) f1 f2 f3 f := by
  obtain ⟨h0, h1, h2, h3, h4, h5⟩ := h
  refine ⟨h0, ?_, ?_, ?_, ?_, ?_⟩
  · show va_up _ _ _ A = _
    unfold va_up
    rw [if_neg (by omega)]
    exact h1
  · show va_up _ _ _ (A + 1) = _
    unfold va_up
    rw [if_neg (by omega)]
    exact h2
  · show va_up _ _ _ (A + 2) = _
    unfold va_up
    rw [if_neg (by omega)]
    exact h3
  · show va_up _ _ _ (A + 3) = _
    unfold va_up
    rw [if_pos rfl]
  · show va_up _ _ _ 131 = _
    unfold va_up
    rw [if_neg (by omega)]
    exact h5
theorem upd_at {f : Nat → Int32} {i : Nat} {v : Int32} : upd f i v i = v := if_pos rfl
theorem upd_ne {f : Nat → Int32} {i j : Nat} {v : Int32} (h : ¬ j = i) : upd f i v j = f j := if_neg h
theorem mnV5 (ψ : jSt) (n k : Nat) (h : k < 5) : mnV ψ n (10 + k) = ψ 2 (92 + k) := by
  have : k = 0 ∨ k = 1 ∨ k = 2 ∨ k = 3 ∨ k = 4 := by omega
  rcases this with rfl | rfl | rfl | rfl | rfl <;> rfl
section P41
variable {xs : Nat → Int32} {L0 : Nat}
theorem m_56 {ψ : jSt} {X : gM} {n : Nat} {pl : Option gE} (hI : INV ψ n) (h86 : ψ 2 86 < 2900) (hX : 132 ≤ X.1) (hpl : X.2 131 = pl) : LW xs L0 56 0 ([some (.ref 1), some (.int (jI (n : Int)))] ++ List.replicate 15 none) [] ψ X (fun x φ X' => 0 ≤ x ∧ x ≤ 6 ∧ INV φ n ∧ φ 2 86 = ψ 2 86 + 1 ∧ X'.1 = X.1 + 4 ∧ X'.2 131 = pl) := by
  have hT := jTow1
  obtain ⟨hG, hS, hY, hR, hN, hL, hn, i83, i103, hP⟩ := id hI
  have hn8 : n ≤ 8 := by have := hS.1; omega
  have h88 := hY.2.2.1
  refine LW_iload_n i_56_0 (by rfl) ?_
  refine LW_newarr i_56_1 (by omega) (by omega) (by first | omega | (dsimp only; omega)) rfl ?_
  refine LW_astore_n i_56_3 (by rw [l_56]; decide) (by rfl) (by omega) ?_
  refine LW_iload_n i_56_4 (by rfl) ?_
  refine LW_newarr i_56_5 (by omega) (by omega) (by first | omega | (dsimp only; omega)) rfl ?_
  refine LW_astore_n i_56_7 (by rw [l_56]; decide) (by rfl) (by omega) ?_
  refine LW_iload_n i_56_8 (by rfl) ?_
  refine LW_newarr i_56_9 (by omega) (by omega) (by first | omega | (dsimp only; omega)) rfl ?_
  refine LW_astore i_56_11 (by rw [l_56]; decide) (by rfl) (by omega) ?_
  refine LW_iconst i_56_13 ?_
  refine LW_newarr i_56_14 (by omega) (by omega) (by first | omega | (dsimp only; omega)) rfl ?_
  refine LW_astore i_56_16 (by rw [l_56]; decide) (by rfl) (by omega) ?_
  refine LW_iconst i_56_18 ?_
  refine LW_istore i_56_19 (by rw [l_56]; decide) (by rfl) ?_
  refine LW_nm (fun X4 hX4 => ?_)
  rw [Int.toNat_natCast, show (5 : Int).toNat = 5 from rfl] at hX4
  have hAS0 := AS_init hX hpl hX4
  refine LW_fg (L' := [some (.ref 1), some (.int (jI (n : Int))), some (.ref X.1), some (.ref (X.1 + 1)), some (.ref (X.1 + 2)), some (.ref (X.1 + 3)), some (.int (jI (((0 : Nat) : Int)))), none, none, none, none, none, none, none, none, none, none]) ?_ (by repeat (first | exact trivial | refine ⟨rfl, ?_⟩))
  refine LW_for (σ := Unit) (N := n) (I := (fun i _ ψ1 X1 => ψ1 = ψ ∧ ∃ f1 f2 f3 f4, AS X.1 n pl X1 f1 f2 f3 f4 ∧ (∀ j, j < i → f1 j = jI (ψ (2 + 2 + j) 3) ∧ f2 j = jI (ψ (2 + 2 + j) 11) ∧ ∃ m, f3 j = jI ((m : Nat) : Int) ∧ MK ψ j n m) ∧ (∀ j, i ≤ j → f3 j = jI ((0 : Nat) : Int)))) (Lf := fun i _ => [some (.ref 1), some (.int (jI (n : Int))), some (.ref X.1), some (.ref (X.1 + 1)), some (.ref (X.1 + 2)), some (.ref (X.1 + 3)), some (.int (jI ((i : Int)))), none, none, none, none, none, none, none, none, none, none]) ?_ ?_ n 0 () ψ X4 (by omega) ?_
  · intro i u ψ1 X1 hi hJ hK
    obtain ⟨e1, f1, f2, f3, f4, hAS, hf, hz⟩ := hJ
    rw [e1]
    have hXn := hAS.1
    have hA0 : X.1 < X1.1 := by omega
    have hA1 : X.1 + 1 < X1.1 := by omega
    have hA3 : X.1 + 3 < X1.1 := by omega
    refine LW_iload i_56_21 (by rfl) ?_
    refine LW_iload_n i_56_23 (by rfl) ?_
    refine LW_icge (tg := 94) i_56_24 (by decide) (by omega) (by omega) (fun h24 => ?_) (fun h24 => ?_)
    · exfalso; omega
    refine LW_aload_n i_56_27 (by rfl) ?_
    refine LW_iload i_56_28 (by rfl) ?_
    refine LW_aload_n i_56_30 (by rfl) ?_
    refine LW_iload i_56_31 (by rfl) ?_
    refine LW_iconst i_56_33 ?_
    refine LW_v2P (j := 1) i_56_34 v_56_37 (by omega) (by decide +kernel) rfl rfl (Nat.le_of_ble_eq_true rfl) (by assumption) rfl (by first | rfl | (simp only [List.all_cons, List.all_nil, g_ok, Bool.and_true, Bool.true_and, Bool.and_eq_true, decide_eq_true_eq] <;> first | assumption | exact ⟨by assumption, by assumption⟩ | exact ⟨by assumption, by assumption, by assumption⟩ | omega)) (m_18 n hn hn8 hS hG (i) 2 (by omega) (by decide)) (fun x34 hx34 => ?_)
    have e34 : x34 = ψ (2 + 2 + i) 3 := hx34
    have g34 := hG (2 + 2 + i) 3
    refine LW_iast i_56_37 (by omega) (by rw [hAS.1]; omega) hAS.2.1 (by omega) (by omega) (by omega) ?_
    refine LW_nm (fun X2 hX2 => ?_)
    have hAS1 := AS_1 (f := upd f1 ((i : Nat) : Int).toNat (jI x34)) (by omega) hAS
    rw [← hX2] at hAS1
    have hX2n := hAS1.1
    have hB1 : X.1 + 1 < X2.1 := by omega
    refine LW_aload_n i_56_38 (by rfl) ?_
    refine LW_iload i_56_39 (by rfl) ?_
    refine LW_aload_n i_56_41 (by rfl) ?_
    refine LW_iload i_56_42 (by rfl) ?_
    refine LW_bipush i_56_44 (by decide) ?_
    refine LW_v2P (j := 1) i_56_46 v_56_37 (by omega) (by decide +kernel) rfl rfl (Nat.le_of_ble_eq_true rfl) (by assumption) rfl (by first | rfl | (simp only [List.all_cons, List.all_nil, g_ok, Bool.and_true, Bool.true_and, Bool.and_eq_true, decide_eq_true_eq] <;> first | assumption | exact ⟨by assumption, by assumption⟩ | exact ⟨by assumption, by assumption, by assumption⟩ | omega)) (m_18 n hn hn8 hS hG (i) 11 (by omega) (by decide)) (fun x46 hx46 => ?_)
    have e46 : x46 = ψ (2 + 2 + i) 11 := hx46
    have g46 := hG (2 + 2 + i) 11
    refine LW_iast i_56_49 (by omega) (by rw [hAS1.1]; omega) hAS1.2.2.1 (by omega) (by omega) (by omega) ?_
    refine LW_nm (fun X3 hX3 => ?_)
    have hAS2 := AS_2 (f := upd f2 ((i : Nat) : Int).toNat (jI x46)) (by omega) hAS1
    rw [← hX3] at hAS2
    have hX3n := hAS2.1
    rw [Int.toNat_natCast] at hAS2
    refine LW_iconst i_56_50 ?_
    refine LW_istore i_56_51 (by rw [l_56]; decide) (by rfl) ?_
    refine LW_fg (L' := [some (.ref 1), some (.int (jI (n : Int))), some (.ref X.1), some (.ref (X.1 + 1)), some (.ref (X.1 + 2)), some (.ref (X.1 + 3)), some (.int (jI (i : Int))), some (.int (jI (((0 : Nat) : Int)))), none, none, none, none, none, none, none, none, none]) ?_ (by repeat (first | exact trivial | refine ⟨rfl, ?_⟩))
    refine LW_for (σ := Unit) (N := n) (I := (fun d _ ψ1 X1 => ψ1 = ψ ∧ ∃ f1 f2 f3 f4 m, AS X.1 n pl X1 f1 f2 f3 f4 ∧ (∀ j, j < i → f1 j = jI (ψ (2 + 2 + j) 3) ∧ f2 j = jI (ψ (2 + 2 + j) 11) ∧ ∃ m, f3 j = jI ((m : Nat) : Int) ∧ MK ψ j n m) ∧ (f1 i = jI (ψ (2 + 2 + i) 3) ∧ f2 i = jI (ψ (2 + 2 + i) 11) ∧ f3 i = jI ((m : Nat) : Int) ∧ MK ψ i d m) ∧ (∀ j, i < j → f3 j = jI ((0 : Nat) : Int)))) (Lf := fun d _ => [some (.ref 1), some (.int (jI (n : Int))), some (.ref X.1), some (.ref (X.1 + 1)), some (.ref (X.1 + 2)), some (.ref (X.1 + 3)), some (.int (jI (i : Int))), some (.int (jI ((d : Int)))), none, none, none, none, none, none, none, none, none]) ?_ ?_ n 0 () ψ X3 (by omega) ?_
    · intro d u2 ψ2 X2 hd hJ2 hK2
      obtain ⟨e2, f1, f2, f3, f4, m, hAS, hf, ⟨hf1i, hf2i, hf3i, hMK⟩, hz⟩ := hJ2
      rw [e2]
      have hXn := hAS.1
      refine LW_iload i_56_53 (by rfl) ?_
      refine LW_iload_n i_56_55 (by rfl) ?_
      refine LW_icge (tg := 88) i_56_56 (by decide) (by omega) (by omega) (fun h56 => ?_) (fun h56 => ?_)
      · exfalso; omega
      refine LW_aload_n i_56_59 (by rfl) ?_
      refine LW_iload i_56_60 (by rfl) ?_
      refine LW_iload i_56_62 (by rfl) ?_
      refine LW_v2P (j := 2) i_56_64 v_56_107 (by omega) (by decide +kernel) rfl rfl (Nat.le_of_ble_eq_true rfl) (by assumption) rfl rfl (m_43 n hn hn8 hG i d (by omega) (by omega)) (fun x64 hx64 => ?_)
      refine LW_ifeq (tg := 82) i_56_67 (by decide) (by omega) (fun h67 => ?_) (fun h67 => ?_)
      · refine LW_iinc i_56_82 (by rfl) (by rw [l_56]; decide) (by rfl) ?_
        refine LW_goto (tg := 53) i_56_85 (by decide) ?_
        first
          | exact LW_fg (hK2 () _ _ ⟨rfl, f1, f2, f3, f4, m, hAS, hf, ⟨hf1i, hf2i, hf3i, MK_no (by omega) hMK (fun q => by have := hx64.2.mpr q; omega)⟩, hz⟩) (by repeat (first | exact trivial | refine ⟨rfl, ?_⟩))
          | (refine LW_fg (hK2 () _ _ ⟨rfl, f1, f2, _, f4, m + 2 ^ d, AS_3 (by omega) hAS, fun j hj => ?_, ⟨hf1i, hf2i, ?_, MK_yes (by omega) hMK (hx64.2.mp (by omega))⟩, fun j hj => ?_⟩) (by repeat (first | exact trivial | refine ⟨rfl, ?_⟩))
             · rw [Int.toNat_natCast, upd_ne (by omega)]
               exact hf j hj
             · rw [Int.toNat_natCast, upd_at]
             · rw [Int.toNat_natCast, upd_ne (by omega)]
               exact hz j hj)
      refine LW_aload i_56_70 (by rfl) ?_
      refine LW_iload i_56_72 (by rfl) ?_
      refine LW_dup2 i_56_74 rfl rfl ?_
      refine LW_iald i_56_75 (by omega) (by rw [hAS.1]; omega) hAS.2.2.2.1 (by omega) (by omega) (by omega) ?_
      rw [Int.toNat_natCast, hf3i]
      refine LW_iconst i_56_76 ?_
      refine LW_iload i_56_77 (by rfl) ?_
      refine LW_ishl i_56_79 ?_
      refine LW_ior i_56_80 ?_
      rw [jor (by omega) hMK.1]
      refine LW_iast i_56_81 (by omega) (by rw [hAS.1]; omega) hAS.2.2.2.1 (by omega) (by omega) (by omega) ?_
      refine LW_iinc i_56_82 (by rfl) (by rw [l_56]; decide) (by rfl) ?_
      refine LW_goto (tg := 53) i_56_85 (by decide) ?_
      first
        | exact LW_fg (hK2 () _ _ ⟨rfl, f1, f2, f3, f4, m, hAS, hf, ⟨hf1i, hf2i, hf3i, MK_no (by omega) hMK (fun q => by have := hx64.2.mpr q; omega)⟩, hz⟩) (by repeat (first | exact trivial | refine ⟨rfl, ?_⟩))
        | (refine LW_fg (hK2 () _ _ ⟨rfl, f1, f2, _, f4, m + 2 ^ d, AS_3 (by omega) hAS, fun j hj => ?_, ⟨hf1i, hf2i, ?_, MK_yes (by omega) hMK (hx64.2.mp (by omega))⟩, fun j hj => ?_⟩) (by repeat (first | exact trivial | refine ⟨rfl, ?_⟩))
           · rw [Int.toNat_natCast, upd_ne (by omega)]
             exact hf j hj
           · rw [Int.toNat_natCast, upd_at]
           · rw [Int.toNat_natCast, upd_ne (by omega)]
             exact hz j hj)
    · intro u2 ψ2 X2 hJ2
      obtain ⟨e2, f1, f2, f3, f4, m, hAS, hf, ⟨hme1, hme2, hme3, hme4⟩, hz⟩ := hJ2
      rw [e2]
      have hXn := hAS.1
      refine LW_iload i_56_53 (by rfl) ?_
      refine LW_iload_n i_56_55 (by rfl) ?_
      refine LW_icge (tg := 88) i_56_56 (by decide) (by omega) (by omega) (fun h56 => ?_) (fun h56 => ?_)
      · refine LW_iinc i_56_88 (by rfl) (by rw [l_56]; decide) (by rfl) ?_
        refine LW_goto (tg := 21) i_56_91 (by decide) ?_
        refine LW_fg (hK () _ _ ⟨rfl, f1, f2, f3, f4, hAS, fun j hj => ?_, fun j hj => hz j hj⟩) (by repeat (first | exact trivial | refine ⟨rfl, ?_⟩))
        rcases Nat.lt_or_eq_of_le (Nat.lt_succ_iff.mp hj) with hj | rfl
        · exact hf j hj
        · exact ⟨hme1, hme2, m, hme3, hme4⟩
      exfalso; omega
    · refine ⟨rfl, _, _, f3, f4, 0, hAS2, fun j hj => ?_, ⟨?_, ?_, hz i (Nat.le_refl _), MK_zero⟩, fun j hj => hz j (by omega)⟩
      · rw [upd_ne (by omega), upd_ne (by omega)]
        exact hf j hj
      · rw [upd_at, e34]
      · rw [upd_at, e46]
  · intro u ψ1 X1 hJ
    obtain ⟨e1, f1, f2, f3, f4, hAS, hf, hz⟩ := hJ
    rw [e1]
    have hXn := hAS.1
    have hA0 : X.1 < X1.1 := by omega
    have hA1 : X.1 + 1 < X1.1 := by omega
    have hA3 : X.1 + 3 < X1.1 := by omega
    refine LW_iload i_56_21 (by rfl) ?_
    refine LW_iload_n i_56_23 (by rfl) ?_
    refine LW_icge (tg := 94) i_56_24 (by decide) (by omega) (by omega) (fun h24 => ?_) (fun h24 => ?_)
    · refine LW_iconst i_56_94 ?_
      refine LW_istore i_56_95 (by rw [l_56]; decide) (by rfl) ?_
      refine LW_fg (L' := [some (.ref 1), some (.int (jI (n : Int))), some (.ref X.1), some (.ref (X.1 + 1)), some (.ref (X.1 + 2)), some (.ref (X.1 + 3)), some (.int (jI (((0 : Nat) : Int)))), none, none, none, none, none, none, none, none, none, none]) ?_ (by repeat (first | exact trivial | refine ⟨rfl, ?_⟩))
      refine LW_for (σ := Unit) (N := 5) (I := (fun i _ ψ1 X1 => ψ1 = ψ ∧ ∃ f1 f2 f3 f4, AS X.1 n pl X1 f1 f2 f3 f4 ∧ (∀ j, j < n → f1 j = jI (ψ (2 + 2 + j) 3) ∧ f2 j = jI (ψ (2 + 2 + j) 11) ∧ ∃ m, f3 j = jI ((m : Nat) : Int) ∧ MK ψ j n m) ∧ (∀ j, j < i → f4 j = jI (mnV ψ n (10 + j))))) (Lf := fun i _ => [some (.ref 1), some (.int (jI (n : Int))), some (.ref X.1), some (.ref (X.1 + 1)), some (.ref (X.1 + 2)), some (.ref (X.1 + 3)), some (.int (jI ((i : Int)))), none, none, none, none, none, none, none, none, none, none]) ?_ ?_ 5 0 () ψ X1 (by omega) ?_
      · intro i u ψ1 X1 hi hJ hK
        obtain ⟨e1, f1, f2, f3, f4, hAS, hf, hf4⟩ := hJ
        rw [e1]
        have hXn := hAS.1
        have hA0 : X.1 < X1.1 := by omega
        have hA1 : X.1 + 1 < X1.1 := by omega
        have hA3 : X.1 + 3 < X1.1 := by omega
        refine LW_iload i_56_97 (by rfl) ?_
        refine LW_iconst i_56_99 ?_
        refine LW_icge (tg := 123) i_56_100 (by decide) (by omega) (by omega) (fun h100 => ?_) (fun h100 => ?_)
        · exfalso; omega
        refine LW_aload i_56_103 (by rfl) ?_
        refine LW_iload i_56_105 (by rfl) ?_
        refine LW_aload_n i_56_107 (by rfl) ?_
        refine LW_bipush i_56_108 (by decide) ?_
        refine LW_iload i_56_110 (by rfl) ?_
        refine LW_iadd i_56_112 ?_
        rw [show (10 : Int) + (i : Int) = ((10 + i : Nat) : Int) by omega]
        refine LW_v1P (j := 0) i_56_113 v_56_34 (by omega) (by decide +kernel) rfl rfl (Nat.le_of_ble_eq_true rfl) (by assumption) rfl (by first | rfl | (simp only [List.all_cons, List.all_nil, g_ok, Bool.and_true, Bool.true_and, Bool.and_eq_true, decide_eq_true_eq] <;> first | assumption | exact ⟨by assumption, by assumption⟩ | exact ⟨by assumption, by assumption, by assumption⟩ | omega)) (m_15 n hn hn8 hS hY hG (10 + i) (by omega)) (fun x113 hx113 => ?_)
        refine LW_iast i_56_116 (by omega) (by rw [hAS.1]; omega) hAS.2.2.2.2.1 (by omega) (by omega) (by omega) ?_
        refine LW_iinc i_56_117 (by rfl) (by rw [l_56]; decide) (by rfl) ?_
        refine LW_goto (tg := 97) i_56_120 (by decide) ?_
        refine LW_fg (hK () _ _ ⟨rfl, f1, f2, f3, _, AS_4 (by omega) hAS, hf, fun j hj => ?_⟩) (by repeat (first | exact trivial | refine ⟨rfl, ?_⟩))
        rw [Int.toNat_natCast]
        by_cases q : j = i
        · subst q; rw [upd_at, hx113]
        · rw [upd_ne q]; exact hf4 j (by omega)
      · intro u ψ1 X1 hJ
        obtain ⟨e1, f1, f2, f3, f4, hAS, hf, hf4⟩ := hJ
        rw [e1]
        have hXn := hAS.1
        have hA0 : X.1 < X1.1 := by omega
        have hA1 : X.1 + 1 < X1.1 := by omega
        have hA3 : X.1 + 3 < X1.1 := by omega
        refine LW_iload i_56_97 (by rfl) ?_
        refine LW_iconst i_56_99 ?_
        refine LW_icge (tg := 123) i_56_100 (by decide) (by omega) (by omega) (fun h100 => ?_) (fun h100 => ?_)
        · refine LW_aload_n i_56_123 (by rfl) ?_
          refine LW_iconst i_56_124 ?_
          refine LW_v1P (j := 0) i_56_125 v_56_34 (by omega) (by decide +kernel) rfl rfl (Nat.le_of_ble_eq_true rfl) (by assumption) rfl rfl (m_15 n hn hn8 hS hY hG 5 (by decide)) (fun x125 hx125 => ?_)
          have e125 : x125 = ψ 2 87 := hx125
          have g125 := hG 2 87
          refine LW_istore i_56_128 (by rw [l_56]; decide) (by rfl) ?_
          refine LW_aload_n i_56_130 (by rfl) ?_
          refine LW_bipush i_56_131 (by decide) ?_
          refine LW_v1P (j := 0) i_56_133 v_56_34 (by omega) (by decide +kernel) rfl rfl (Nat.le_of_ble_eq_true rfl) (by assumption) rfl rfl (m_15 n hn hn8 hS hY hG 6 (by decide)) (fun x133 hx133 => ?_)
          have e133 : x133 = ψ 2 88 := hx133
          have g133 := hG 2 88
          refine LW_iconst i_56_136 ?_
          have h145 : ∀ x7 : Int, (x7 = 1 ∧ ψ 2 88 = 1 ∨ x7 = 0 ∧ ψ 2 88 = 0) → LW xs L0 56 145 [some (.ref 1), some (.int (jI (n : Int))), some (.ref X.1), some (.ref (X.1 + 1)), some (.ref (X.1 + 2)), some (.ref (X.1 + 3)), some (.int (jI x125)), none, none, none, none, none, none, none, none, none, none] [.int (jI x7)] ψ X1 (fun x φ X' => 0 ≤ x ∧ x ≤ 6 ∧ INV φ n ∧ φ 2 86 = ψ 2 86 + 1 ∧ X'.1 = X.1 + 4 ∧ X'.2 131 = pl) := by
            intro x7 hx7
            refine LW_istore i_56_145 (by rw [l_56]; decide) (by rfl) ?_
            refine LW_aload_n i_56_147 (by rfl) ?_
            refine LW_bipush i_56_148 (by decide) ?_
            refine LW_v1P (j := 0) i_56_150 v_56_34 (by omega) (by decide +kernel) rfl rfl (Nat.le_of_ble_eq_true rfl) (by assumption) rfl rfl (m_15 n hn hn8 hS hY hG 8 (by decide)) (fun x150 hx150 => ?_)
            have e150 : x150 = opn ψ 2 := hx150
            have g150 := opn_bd hG 2
            refine LW_istore i_56_153 (by rw [l_56]; decide) (by rfl) ?_
            refine LW_aload_n i_56_155 (by rfl) ?_
            refine LW_bipush i_56_156 (by decide) ?_
            refine LW_v1P (j := 0) i_56_158 v_56_34 (by omega) (by decide +kernel) rfl rfl (Nat.le_of_ble_eq_true rfl) (by assumption) rfl rfl (m_15 n hn hn8 hS hY hG 9 (by decide)) (fun x158 hx158 => ?_)
            have e158 : x158 = ψ 2 91 := hx158
            have g158 := hG 2 91
            refine LW_istore i_56_161 (by rw [l_56]; decide) (by rfl) ?_
            refine LW_aload_n i_56_163 (by rfl) ?_
            refine LW_iconst i_56_164 ?_
            refine LW_v1P (j := 0) i_56_165 v_56_34 (by omega) (by decide +kernel) rfl rfl (Nat.le_of_ble_eq_true rfl) (by assumption) rfl rfl (m_15 n hn hn8 hS hY hG 0 (by decide)) (fun x165 hx165 => ?_)
            have e165 : x165 = ψ 2 86 := hx165
            have g165 := hG 2 86
            refine LW_istore i_56_168 (by rw [l_56]; decide) (by rfl) ?_
            refine LW_aload_n i_56_170 (by rfl) ?_
            refine LW_iconst i_56_171 ?_
            refine LW_v1I (j := 2) i_56_172 v_56_111 (by omega) (by decide +kernel) rfl rfl (Nat.le_of_ble_eq_true rfl) (by assumption) rfl rfl (m_54 n hn hn8 hS hY hG (by omega)) (fun x172 φ hQ172 => ?_)
            obtain ⟨hx172, hSEC⟩ := hQ172
            have hIf := INV_sec hI hSEC
            obtain ⟨hGf, hSf, hYf, hRf, hNf, hLf, hnf, i83f, i103f, hPf⟩ := id hIf
            obtain ⟨_, hFf, _, s86, sB, sT, sM, sN, sO, sK, sX, sX2, sV, _⟩ := id hSEC
            have ho6 := opn_6 hS hY
            have hbrk : ∀ a, φ a 10 = ψ a 10 := fun a => jD_key hFf (by decide)
            have hnb := nbk_le ψ 2 n
            have m90 := sM 90 (by decide) (by decide)
            have m91 := sM 91 (by decide) (by decide)
            have m92 := sM 92 (by decide) (by decide)
            have m93 := sM 93 (by decide) (by decide)
            have m94 := sM 94 (by decide) (by decide)
            have m95 := sM 95 (by decide) (by decide)
            have m96 := sM 96 (by decide) (by decide)
            refine LW_istore i_56_175 (by rw [l_56]; decide) (by rfl) ?_
            refine LW_iconst i_56_177 ?_
            refine LW_istore i_56_178 (by rw [l_56]; decide) (by rfl) ?_
            refine LW_iconst i_56_180 ?_
            refine LW_istore i_56_181 (by rw [l_56]; decide) (by rfl) ?_
            refine LW_fg (L' := [some (.ref 1), some (.int (jI (n : Int))), some (.ref X.1), some (.ref (X.1 + 1)), some (.ref (X.1 + 2)), some (.ref (X.1 + 3)), some (.int (jI x125)), some (.int (jI x7)), some (.int (jI x150)), some (.int (jI x158)), some (.int (jI x165)), some (.int (jI x172)), some (.int (jI 0)), some (.int (jI ((0 : Nat) : Int))), none, none, none]) ?_ (by repeat (first | exact trivial | refine ⟨rfl, ?_⟩))
            refine LW_for (σ := Int) (N := n) (I := (fun i s ψ1 X2 => ψ1 = φ ∧ X2 = X1 ∧ 0 ≤ s ∧ s ≤ i)) (Lf := fun i s => [some (.ref 1), some (.int (jI (n : Int))), some (.ref X.1), some (.ref (X.1 + 1)), some (.ref (X.1 + 2)), some (.ref (X.1 + 3)), some (.int (jI x125)), some (.int (jI x7)), some (.int (jI x150)), some (.int (jI x158)), some (.int (jI x165)), some (.int (jI x172)), some (.int (jI s)), some (.int (jI (i : Int))), none, none, none]) ?_ ?_ n 0 0 φ X1 (by omega) ?_
            · intro i s ψ1 X2 hi hJ hK
              obtain ⟨e1, e2, hs0, hs1⟩ := hJ
              rw [e1, e2]
              refine LW_iload i_56_183 (by rfl) ?_
              refine LW_iload_n i_56_185 (by rfl) ?_
              refine LW_icge (tg := 342) i_56_186 (by decide) (by omega) (by omega) (fun h186 => ?_) (fun h186 => ?_)
              · exfalso; omega
              obtain ⟨gb, gb0, gb8, gbh, gb11, gbk⟩ := sB i hi
              have hb10 := hbrk (2 + 2 + i)
              have hk10 := (hS.2.2.2.1 i (by omega)).2.2.2.2.2.2.2.2.2
              have h295 : ∀ v12 : Int, 0 ≤ v12 → v12 ≤ i + 1 → LW xs L0 56 295 [some (.ref 1), some (.int (jI (n : Int))), some (.ref X.1), some (.ref (X.1 + 1)), some (.ref (X.1 + 2)), some (.ref (X.1 + 3)), some (.int (jI x125)), some (.int (jI x7)), some (.int (jI x150)), some (.int (jI x158)), some (.int (jI x165)), some (.int (jI x172)), some (.int (jI v12)), some (.int (jI (i : Int))), none, none, none] [] φ X1 (fun x φ X' => 0 ≤ x ∧ x ≤ 6 ∧ INV φ n ∧ φ 2 86 = ψ 2 86 + 1 ∧ X'.1 = X.1 + 4 ∧ X'.2 131 = pl) := by
                intro v12 hv0 hv1
                refine LW_iconst i_56_295 ?_
                refine LW_istore i_56_296 (by rw [l_56]; decide) (by rfl) ?_
                refine LW_fg (L' := [some (.ref 1), some (.int (jI (n : Int))), some (.ref X.1), some (.ref (X.1 + 1)), some (.ref (X.1 + 2)), some (.ref (X.1 + 3)), some (.int (jI x125)), some (.int (jI x7)), some (.int (jI x150)), some (.int (jI x158)), some (.int (jI x165)), some (.int (jI x172)), some (.int (jI v12)), some (.int (jI (i : Int))), none, none, some (.int (jI ((0 : Nat) : Int)))]) ?_ (by repeat (first | exact trivial | refine ⟨rfl, ?_⟩))
                refine LW_for (σ := Unit) (N := n) (I := (fun d _ ψ1 X2 => ψ1 = φ ∧ X2 = X1)) (Lf := fun d _ => [some (.ref 1), some (.int (jI (n : Int))), some (.ref X.1), some (.ref (X.1 + 1)), some (.ref (X.1 + 2)), some (.ref (X.1 + 3)), some (.int (jI x125)), some (.int (jI x7)), some (.int (jI x150)), some (.int (jI x158)), some (.int (jI x165)), some (.int (jI x172)), some (.int (jI v12)), some (.int (jI (i : Int))), none, none, some (.int (jI (d : Int)))]) ?_ ?_ n 0 () φ X1 (by omega) ?_
                · intro d u2 ψ2 X2 hd hJ2 hK2
                  rw [hJ2.1, hJ2.2]
                  refine LW_iload i_56_298 (by rfl) ?_
                  refine LW_iload_n i_56_300 (by rfl) ?_
                  refine LW_icge (tg := 336) i_56_301 (by decide) (by omega) (by omega) (fun h301 => ?_) (fun h301 => ?_)
                  · exfalso; omega
                  refine LW_aload_n i_56_304 (by rfl) ?_
                  refine LW_iload i_56_305 (by rfl) ?_
                  refine LW_iload i_56_307 (by rfl) ?_
                  refine LW_v2P (j := 2) i_56_309 v_56_107 (by omega) (by decide +kernel) rfl rfl (Nat.le_of_ble_eq_true rfl) (by assumption) rfl rfl (m_43 n hnf hn8 hGf i d (by omega) (by omega)) (fun x309 hx309 => ?_)
                  refine LW_ifeq (tg := 330) i_56_312 (by decide) (by omega) (fun h312 => ?_) (fun h312 => ?_)
                  · refine LW_iinc i_56_330 (by rfl) (by rw [l_56]; decide) (by rfl) ?_
                    refine LW_goto (tg := 298) i_56_333 (by decide) ?_
                    exact LW_fg (hK2 () _ _ ⟨rfl, rfl⟩) (by repeat (first | exact trivial | refine ⟨rfl, ?_⟩))
                  refine LW_aload i_56_315 (by rfl) ?_
                  refine LW_iload i_56_317 (by rfl) ?_
                  refine LW_iald i_56_319 (by omega) (by rw [hAS.1]; omega) hAS.2.2.2.1 (by omega) (by omega) (by omega) ?_
                  obtain ⟨m, hm1, hm2⟩ := (hf i hi).2.2
                  rw [Int.toNat_natCast, hm1]
                  refine LW_iload i_56_320 (by rfl) ?_
                  refine LW_ishr i_56_322 ?_
                  refine LW_iconst i_56_323 ?_
                  refine LW_iand i_56_324 ?_
                  rw [mbit (MK_256 hn8 hm2) (by omega)]
                  have h320 := hm2.2 d hd
                  refine LW_ifne (tg := 330) i_56_325 (by decide) (by omega) (fun h325 => ?_) (fun h325 => ?_)
                  · refine LW_iinc i_56_330 (by rfl) (by rw [l_56]; decide) (by rfl) ?_
                    refine LW_goto (tg := 298) i_56_333 (by decide) ?_
                    exact LW_fg (hK2 () _ _ ⟨rfl, rfl⟩) (by repeat (first | exact trivial | refine ⟨rfl, ?_⟩))
                  exfalso
                  exact absurd (h320.mpr (sT i d hi hd (hx309.2.mp (by omega)))) (by omega)
                · intro u2 ψ2 X2 hJ2
                  rw [hJ2.1, hJ2.2]
                  refine LW_iload i_56_298 (by rfl) ?_
                  refine LW_iload_n i_56_300 (by rfl) ?_
                  refine LW_icge (tg := 336) i_56_301 (by decide) (by omega) (by omega) (fun h301 => ?_) (fun h301 => ?_)
                  · refine LW_iinc i_56_336 (by rfl) (by rw [l_56]; decide) (by rfl) ?_
                    refine LW_goto (tg := 183) i_56_339 (by decide) ?_
                    exact LW_fg (hK v12 _ _ ⟨rfl, rfl, by omega, by omega⟩) (by repeat (first | exact trivial | refine ⟨rfl, ?_⟩))
                  exfalso; omega
                · exact ⟨rfl, rfl⟩
              refine LW_aload_n i_56_189 (by rfl) ?_
              refine LW_iload i_56_190 (by rfl) ?_
              refine LW_iconst i_56_192 ?_
              refine LW_v2P (j := 1) i_56_193 v_56_37 (by omega) (by decide +kernel) rfl rfl (Nat.le_of_ble_eq_true rfl) (by assumption) rfl rfl (m_18 n hnf hn8 hSf hGf (i) 2 (by omega) (by decide)) (fun x193 hx193 => ?_)
              have e193 : x193 = φ (2 + 2 + i) 3 := hx193
              have g193 := hGf (2 + 2 + i) 3
              refine LW_aload_n i_56_196 (by rfl) ?_
              refine LW_iload i_56_197 (by rfl) ?_
              refine LW_iald i_56_199 (by omega) (by rw [hAS.1]; omega) hAS.2.1 (by omega) (by omega) (by omega) ?_
              rw [Int.toNat_natCast, (hf i hi).1]
              have p200 := hG (2 + 2 + i) 3
              refine LW_isub i_56_200 ?_
              refine LW_absz i_56_201 v_56_114 (Nat.le_of_ble_eq_true rfl) (by decide +kernel) (by omega) (fun z201 q201 => ?_)
              refine LW_istore i_56_204 (by rw [l_56]; decide) (by rfl) ?_
              have h239 : ∀ e z15 : Int, (e = 0 ∨ e = 1) → (z15 = 8 ∧ φ (2 + 2 + i) 10 = 1 ∨ z15 = 6 ∧ φ (2 + 2 + i) 10 = 0) → LW xs L0 56 239 [some (.ref 1), some (.int (jI (n : Int))), some (.ref X.1), some (.ref (X.1 + 1)), some (.ref (X.1 + 2)), some (.ref (X.1 + 3)), some (.int (jI x125)), some (.int (jI x7)), some (.int (jI x150)), some (.int (jI x158)), some (.int (jI x165)), some (.int (jI x172)), some (.int (jI s)), some (.int (jI (i : Int))), some (.int (jI z201)), some (.int (jI z15)), none] [.int (jI e), .int (jI s)] φ X1 (fun x φ X' => 0 ≤ x ∧ x ≤ 6 ∧ INV φ n ∧ φ 2 86 = ψ 2 86 + 1 ∧ X'.1 = X.1 + 4 ∧ X'.2 131 = pl) := by
                intro e z15 he hz15
                refine LW_iadd i_56_239 ?_
                refine LW_istore i_56_240 (by rw [l_56]; decide) (by rfl) ?_
                refine LW_iload i_56_242 (by rfl) ?_
                refine LW_iload i_56_244 (by rfl) ?_
                refine LW_icgt (tg := 293) i_56_246 (by decide) (by omega) (by omega) (fun h246 => ?_) (fun h246 => ?_)
                · exfalso; omega
                refine LW_aload_n i_56_249 (by rfl) ?_
                refine LW_iload i_56_250 (by rfl) ?_
                refine LW_bipush i_56_252 (by decide) ?_
                refine LW_v2P (j := 1) i_56_254 v_56_37 (by omega) (by decide +kernel) rfl rfl (Nat.le_of_ble_eq_true rfl) (by assumption) rfl rfl (m_18 n hnf hn8 hSf hGf (i) 11 (by omega) (by decide)) (fun x254 hx254 => ?_)
                have e254 : x254 = φ (2 + 2 + i) 11 := hx254
                have g254 := hGf (2 + 2 + i) 11
                refine LW_aload_n i_56_257 (by rfl) ?_
                refine LW_iload i_56_258 (by rfl) ?_
                refine LW_iald i_56_260 (by omega) (by rw [hAS.1]; omega) hAS.2.2.1 (by omega) (by omega) (by omega) ?_
                rw [Int.toNat_natCast, (hf i hi).2.1]
                have p261 := hG (2 + 2 + i) 11
                refine LW_iload i_56_261 (by rfl) ?_
                refine LW_iadd i_56_263 ?_
                refine LW_icne (tg := 293) i_56_264 (by decide) (by omega) (by omega) (fun h264 => ?_) (fun h264 => ?_)
                · exfalso; omega
                refine LW_iload i_56_267 (by rfl) ?_
                refine LW_ifle (tg := 295) i_56_269 (by decide) (by omega) (fun h269 => ?_) (fun h269 => ?_)
                · exact LW_fg (h295 (s + e) (by omega) (by omega)) (by repeat (first | exact trivial | refine ⟨rfl, ?_⟩))
                refine LW_aload_n i_56_272 (by rfl) ?_
                refine LW_iload i_56_273 (by rfl) ?_
                refine LW_bipush i_56_275 (by decide) ?_
                refine LW_v2P (j := 1) i_56_277 v_56_37 (by omega) (by decide +kernel) rfl rfl (Nat.le_of_ble_eq_true rfl) (by assumption) rfl rfl (m_18 n hnf hn8 hSf hGf (i) 10 (by omega) (by decide)) (fun x277 hx277 => ?_)
                have e277 : x277 = φ (2 + 2 + i) 10 := hx277
                have g277 := hGf (2 + 2 + i) 10
                refine LW_ifne (tg := 295) i_56_280 (by decide) (by omega) (fun h280 => ?_) (fun h280 => ?_)
                · exact LW_fg (h295 (s + e) (by omega) (by omega)) (by repeat (first | exact trivial | refine ⟨rfl, ?_⟩))
                refine LW_iload i_56_283 (by rfl) ?_
                refine LW_iflt (tg := 293) i_56_285 (by decide) (by omega) (fun h285 => ?_) (fun h285 => ?_)
                · exfalso; omega
                refine LW_iload i_56_288 (by rfl) ?_
                refine LW_ifeq (tg := 295) i_56_290 (by decide) (by omega) (fun h290 => ?_) (fun h290 => ?_)
                · exact LW_fg (h295 (s + e) (by omega) (by omega)) (by repeat (first | exact trivial | refine ⟨rfl, ?_⟩))
                exfalso; omega
              refine LW_aload_n i_56_206 (by rfl) ?_
              refine LW_iload i_56_207 (by rfl) ?_
              refine LW_bipush i_56_209 (by decide) ?_
              refine LW_v2P (j := 1) i_56_211 v_56_37 (by omega) (by decide +kernel) rfl rfl (Nat.le_of_ble_eq_true rfl) (by assumption) rfl rfl (m_18 n hnf hn8 hSf hGf (i) 10 (by omega) (by decide)) (fun x211 hx211 => ?_)
              have e211 : x211 = φ (2 + 2 + i) 10 := hx211
              have g211 := hGf (2 + 2 + i) 10
              refine LW_iconst i_56_214 ?_
              refine LW_icne (tg := 223) i_56_215 (by decide) (by omega) (by omega) (fun h215 => ?_) (fun h215 => ?_)
              · refine LW_bipush i_56_223 (by decide) ?_
                refine LW_istore i_56_225 (by rw [l_56]; decide) (by rfl) ?_
                refine LW_iload i_56_227 (by rfl) ?_
                refine LW_iload i_56_229 (by rfl) ?_
                refine LW_ifle (tg := 238) i_56_231 (by decide) (by omega) (fun h231 => ?_) (fun h231 => ?_)
                · refine LW_iconst i_56_238 ?_
                  first
                    | exact LW_fg (h239 _ 8 (by omega) (by omega)) (by repeat (first | exact trivial | refine ⟨rfl, ?_⟩))
                    | exact LW_fg (h239 _ 6 (by omega) (by omega)) (by repeat (first | exact trivial | refine ⟨rfl, ?_⟩))
                refine LW_iconst i_56_234 ?_
                refine LW_goto (tg := 239) i_56_235 (by decide) ?_
                first
                  | exact LW_fg (h239 _ 8 (by omega) (by omega)) (by repeat (first | exact trivial | refine ⟨rfl, ?_⟩))
                  | exact LW_fg (h239 _ 6 (by omega) (by omega)) (by repeat (first | exact trivial | refine ⟨rfl, ?_⟩))
              refine LW_bipush i_56_218 (by decide) ?_
              refine LW_goto (tg := 225) i_56_220 (by decide) ?_
              refine LW_istore i_56_225 (by rw [l_56]; decide) (by rfl) ?_
              refine LW_iload i_56_227 (by rfl) ?_
              refine LW_iload i_56_229 (by rfl) ?_
              refine LW_ifle (tg := 238) i_56_231 (by decide) (by omega) (fun h231 => ?_) (fun h231 => ?_)
              · refine LW_iconst i_56_238 ?_
                first
                  | exact LW_fg (h239 _ 8 (by omega) (by omega)) (by repeat (first | exact trivial | refine ⟨rfl, ?_⟩))
                  | exact LW_fg (h239 _ 6 (by omega) (by omega)) (by repeat (first | exact trivial | refine ⟨rfl, ?_⟩))
              refine LW_iconst i_56_234 ?_
              refine LW_goto (tg := 239) i_56_235 (by decide) ?_
              first
                | exact LW_fg (h239 _ 8 (by omega) (by omega)) (by repeat (first | exact trivial | refine ⟨rfl, ?_⟩))
                | exact LW_fg (h239 _ 6 (by omega) (by omega)) (by repeat (first | exact trivial | refine ⟨rfl, ?_⟩))
            · intro s ψ1 X2 hJ
              obtain ⟨e1, e2, _, _⟩ := hJ
              rw [e1, e2]
              refine LW_iload i_56_183 (by rfl) ?_
              refine LW_iload_n i_56_185 (by rfl) ?_
              refine LW_icge (tg := 342) i_56_186 (by decide) (by omega) (by omega) (fun h186 => ?_) (fun h186 => ?_)
              · refine LW_iconst i_56_342 ?_
                refine LW_istore i_56_343 (by rw [l_56]; decide) (by rfl) ?_
                refine LW_fg (L' := [some (.ref 1), some (.int (jI (n : Int))), some (.ref X.1), some (.ref (X.1 + 1)), some (.ref (X.1 + 2)), some (.ref (X.1 + 3)), some (.int (jI x125)), some (.int (jI x7)), some (.int (jI x150)), some (.int (jI x158)), some (.int (jI x165)), some (.int (jI x172)), none, some (.int (jI ((0 : Nat) : Int))), none, none, none]) ?_ (by repeat (first | exact trivial | refine ⟨rfl, ?_⟩))
                refine LW_for (σ := Unit) (N := 5) (I := (fun d _ ψ1 X2 => ψ1 = φ ∧ X2 = X1)) (Lf := fun i _ => [some (.ref 1), some (.int (jI (n : Int))), some (.ref X.1), some (.ref (X.1 + 1)), some (.ref (X.1 + 2)), some (.ref (X.1 + 3)), some (.int (jI x125)), some (.int (jI x7)), some (.int (jI x150)), some (.int (jI x158)), some (.int (jI x165)), some (.int (jI x172)), none, some (.int (jI (i : Int))), none, none, none]) ?_ ?_ 5 0 () φ X1 (by omega) ?_
                · intro i u2 ψ2 X2 hi hJ2 hK2
                  rw [hJ2.1, hJ2.2]
                  refine LW_iload i_56_345 (by rfl) ?_
                  refine LW_iconst i_56_347 ?_
                  refine LW_icge (tg := 376) i_56_348 (by decide) (by omega) (by omega) (fun h348 => ?_) (fun h348 => ?_)
                  · exfalso; omega
                  refine LW_aload_n i_56_351 (by rfl) ?_
                  refine LW_bipush i_56_352 (by decide) ?_
                  refine LW_iload i_56_354 (by rfl) ?_
                  refine LW_iadd i_56_356 ?_
                  rw [show (10 : Int) + (i : Int) = ((10 + i : Nat) : Int) by omega]
                  refine LW_v1P (j := 0) i_56_357 v_56_34 (by omega) (by decide +kernel) rfl rfl (Nat.le_of_ble_eq_true rfl) (by assumption) rfl rfl (m_15 n hnf hn8 hSf hYf hGf (10 + i) (by omega)) (fun x357 hx357 => ?_)
                  rw [mnV5 φ n i hi] at hx357
                  have g357 := hGf 2 (92 + i)
                  have s357 := sM (92 + i) (by omega) (by omega)
                  have p357 := hG 2 (92 + i)
                  refine LW_aload i_56_360 (by rfl) ?_
                  refine LW_iload i_56_362 (by rfl) ?_
                  refine LW_iald i_56_364 (by omega) (by rw [hAS.1]; omega) hAS.2.2.2.2.1 (by omega) (by omega) (by omega) ?_
                  rw [Int.toNat_natCast, hf4 i hi, mnV5 ψ n i hi]
                  refine LW_icge (tg := 370) i_56_365 (by decide) (by omega) (by omega) (fun h365 => ?_) (fun h365 => ?_)
                  · refine LW_iinc i_56_370 (by rfl) (by rw [l_56]; decide) (by rfl) ?_
                    refine LW_goto (tg := 345) i_56_373 (by decide) ?_
                    exact LW_fg (hK2 () _ _ ⟨rfl, rfl⟩) (by repeat (first | exact trivial | refine ⟨rfl, ?_⟩))
                  exfalso; omega
                · intro u2 ψ2 X2 hJ2
                  rw [hJ2.1, hJ2.2]
                  refine LW_iload i_56_345 (by rfl) ?_
                  refine LW_iconst i_56_347 ?_
                  refine LW_icge (tg := 376) i_56_348 (by decide) (by omega) (by omega) (fun h348 => ?_) (fun h348 => ?_)
                  · have h500 : LW xs L0 56 500 [some (.ref 1), some (.int (jI (n : Int))), some (.ref X.1), some (.ref (X.1 + 1)), some (.ref (X.1 + 2)), some (.ref (X.1 + 3)), some (.int (jI x125)), some (.int (jI x7)), some (.int (jI x150)), some (.int (jI x158)), some (.int (jI x165)), some (.int (jI x172)), none, none, none, none, none] [] φ X1 (fun x φ X' => 0 ≤ x ∧ x ≤ 6 ∧ INV φ n ∧ φ 2 86 = ψ 2 86 + 1 ∧ X'.1 = X.1 + 4 ∧ X'.2 131 = pl) := by
                      skip
                      refine LW_aload_n i_56_500 (by rfl) ?_
                      refine LW_bipush i_56_501 (by decide) ?_
                      refine LW_v1P (j := 0) i_56_503 v_56_34 (by omega) (by decide +kernel) rfl rfl (Nat.le_of_ble_eq_true rfl) (by assumption) rfl rfl (m_15 n hnf hn8 hSf hYf hGf 12 (by decide)) (fun x503 hx503 => ?_)
                      have e503 : x503 = φ 2 94 := hx503
                      have g503 := hGf 2 94
                      refine LW_aload_n i_56_506 (by rfl) ?_
                      refine LW_bipush i_56_507 (by decide) ?_
                      refine LW_v1P (j := 0) i_56_509 v_56_34 (by omega) (by decide +kernel) rfl rfl (Nat.le_of_ble_eq_true rfl) (by assumption) rfl rfl (m_15 n hnf hn8 hSf hYf hGf 13 (by decide)) (fun x509 hx509 => ?_)
                      have e509 : x509 = φ 2 95 := hx509
                      have g509 := hGf 2 95
                      refine LW_iadd i_56_512 ?_
                      refine LW_aload i_56_513 (by rfl) ?_
                      refine LW_iconst i_56_515 ?_
                      refine LW_iald i_56_516 (by omega) (by rw [hAS.1]; omega) hAS.2.2.2.2.1 (by omega) (by omega) (by omega) ?_
                      rw [show (2 : Int).toNat = 2 from rfl, hf4 2 (by decide), mnV5 ψ n 2 (by decide)]
                      have q517 := hG 2 (92 + 2)
                      rw [show 92 + 2 = 94 from rfl] at q517 ⊢
                      refine LW_aload i_56_517 (by rfl) ?_
                      refine LW_iconst i_56_519 ?_
                      refine LW_iald i_56_520 (by omega) (by rw [hAS.1]; omega) hAS.2.2.2.2.1 (by omega) (by omega) (by omega) ?_
                      rw [show (3 : Int).toNat = 3 from rfl, hf4 3 (by decide), mnV5 ψ n 3 (by decide)]
                      have q521 := hG 2 (92 + 3)
                      rw [show 92 + 3 = 95 from rfl] at q521 ⊢
                      refine LW_iadd i_56_521 ?_
                      refine LW_iconst i_56_522 ?_
                      refine LW_aload_n i_56_523 (by rfl) ?_
                      refine LW_bipush i_56_524 (by decide) ?_
                      refine LW_v1P (j := 0) i_56_526 v_56_34 (by omega) (by decide +kernel) rfl rfl (Nat.le_of_ble_eq_true rfl) (by assumption) rfl rfl (m_15 n hnf hn8 hSf hYf hGf 15 (by decide)) (fun x526 hx526 => ?_)
                      have e526 : x526 = ((brk φ 2 n : Nat) : Int) := hx526
                      have g526 := brk_8 φ 2 hn8
                      rw [e526]
                      refine LW_t1P (j := 0) i_56_529 v_56_117 (by omega) (by decide +kernel) rfl rfl (Nat.le_of_ble_eq_true rfl) rfl rfl (m_55 (brk φ 2 n)) (fun x529 hx529 => ?_)
                      rw [bcx_nbk φ 2 n hn8, nbk_eq hbrk n] at hx529
                      refine LW_imul i_56_532 ?_
                      refine LW_iadd i_56_533 ?_
                      refine LW_icgt (tg := 550) i_56_534 (by decide) (by omega) (by omega) (fun h534 => ?_) (fun h534 => ?_)
                      · exfalso; omega
                      refine LW_aload_n i_56_537 (by rfl) ?_
                      refine LW_bipush i_56_538 (by decide) ?_
                      refine LW_v1P (j := 0) i_56_540 v_56_34 (by omega) (by decide +kernel) rfl rfl (Nat.le_of_ble_eq_true rfl) (by assumption) rfl rfl (m_15 n hnf hn8 hSf hYf hGf 9 (by decide)) (fun x540 hx540 => ?_)
                      have e540 : x540 = φ 2 91 := hx540
                      have g540 := hGf 2 91
                      refine LW_iload i_56_543 (by rfl) ?_
                      refine LW_iconst i_56_545 ?_
                      refine LW_iadd i_56_546 ?_
                      refine LW_icle (tg := 552) i_56_547 (by decide) (by omega) (by omega) (fun h547 => ?_) (fun h547 => ?_)
                      · refine LW_aload_n i_56_552 (by rfl) ?_
                        refine LW_bipush i_56_553 (by decide) ?_
                        refine LW_v1P (j := 0) i_56_555 v_56_34 (by omega) (by decide +kernel) rfl rfl (Nat.le_of_ble_eq_true rfl) (by assumption) rfl rfl (m_15 n hnf hn8 hSf hYf hGf 9 (by decide)) (fun x555 hx555 => ?_)
                        have e555 : x555 = φ 2 91 := hx555
                        have g555 := hGf 2 91
                        refine LW_iload i_56_558 (by rfl) ?_
                        refine LW_icle (tg := 572) i_56_560 (by decide) (by omega) (by omega) (fun h560 => ?_) (fun h560 => ?_)
                        · refine LW_iload i_56_572 (by rfl) ?_
                          refine LW_iret i_56_574 r_56 ?_
                          exact ⟨by omega, by omega, hIf, s86, hXn, hAS.2.2.2.2.2⟩
                        refine LW_iload i_56_563 (by rfl) ?_
                        refine LW_ifge (tg := 572) i_56_565 (by decide) (by omega) (fun h565 => ?_) (fun h565 => ?_)
                        · refine LW_iload i_56_572 (by rfl) ?_
                          refine LW_iret i_56_574 r_56 ?_
                          exact ⟨by omega, by omega, hIf, s86, hXn, hAS.2.2.2.2.2⟩
                        exfalso; omega
                      exfalso; omega
                    have h444 : LW xs L0 56 444 [some (.ref 1), some (.int (jI (n : Int))), some (.ref X.1), some (.ref (X.1 + 1)), some (.ref (X.1 + 2)), some (.ref (X.1 + 3)), some (.int (jI x125)), some (.int (jI x7)), some (.int (jI x150)), some (.int (jI x158)), some (.int (jI x165)), some (.int (jI x172)), none, none, none, none, none] [] φ X1 (fun x φ X' => 0 ≤ x ∧ x ≤ 6 ∧ INV φ n ∧ φ 2 86 = ψ 2 86 + 1 ∧ X'.1 = X.1 + 4 ∧ X'.2 131 = pl) := by
                      skip
                      refine LW_aload_n i_56_444 (by rfl) ?_
                      refine LW_iconst i_56_445 ?_
                      refine LW_v1P (j := 0) i_56_446 v_56_34 (by omega) (by decide +kernel) rfl rfl (Nat.le_of_ble_eq_true rfl) (by assumption) rfl rfl (m_15 n hnf hn8 hSf hYf hGf 0 (by decide)) (fun x446 hx446 => ?_)
                      have e446 : x446 = φ 2 86 := hx446
                      have g446 := hGf 2 86
                      refine LW_iload i_56_449 (by rfl) ?_
                      refine LW_iconst i_56_451 ?_
                      refine LW_iadd i_56_452 ?_
                      refine LW_icne (tg := 550) i_56_453 (by decide) (by omega) (by omega) (fun h453 => ?_) (fun h453 => ?_)
                      · exfalso; omega
                      refine LW_iload i_56_456 (by rfl) ?_
                      refine LW_iload i_56_458 (by rfl) ?_
                      refine LW_icgt (tg := 550) i_56_460 (by decide) (by omega) (by omega) (fun h460 => ?_) (fun h460 => ?_)
                      · exfalso; omega
                      refine LW_aload_n i_56_463 (by rfl) ?_
                      refine LW_bipush i_56_464 (by decide) ?_
                      refine LW_v1P (j := 0) i_56_466 v_56_34 (by omega) (by decide +kernel) rfl rfl (Nat.le_of_ble_eq_true rfl) (by assumption) rfl rfl (m_15 n hnf hn8 hSf hYf hGf 11 (by decide)) (fun x466 hx466 => ?_)
                      have e466 : x466 = φ 2 93 := hx466
                      have g466 := hGf 2 93
                      refine LW_aload i_56_469 (by rfl) ?_
                      refine LW_iconst i_56_471 ?_
                      refine LW_iald i_56_472 (by omega) (by rw [hAS.1]; omega) hAS.2.2.2.2.1 (by omega) (by omega) (by omega) ?_
                      rw [show (1 : Int).toNat = 1 from rfl, hf4 1 (by decide), mnV5 ψ n 1 (by decide)]
                      have q473 := hG 2 (92 + 1)
                      rw [show 92 + 1 = 93 from rfl] at q473 ⊢
                      refine LW_iconst i_56_473 ?_
                      refine LW_iadd i_56_474 ?_
                      refine LW_icgt (tg := 550) i_56_475 (by decide) (by omega) (by omega) (fun h475 => ?_) (fun h475 => ?_)
                      · exfalso; omega
                      refine LW_aload_n i_56_478 (by rfl) ?_
                      refine LW_bipush i_56_479 (by decide) ?_
                      refine LW_v1P (j := 0) i_56_481 v_56_34 (by omega) (by decide +kernel) rfl rfl (Nat.le_of_ble_eq_true rfl) (by assumption) rfl rfl (m_15 n hnf hn8 hSf hYf hGf 11 (by decide)) (fun x481 hx481 => ?_)
                      have e481 : x481 = φ 2 93 := hx481
                      have g481 := hGf 2 93
                      refine LW_aload i_56_484 (by rfl) ?_
                      refine LW_iconst i_56_486 ?_
                      refine LW_iald i_56_487 (by omega) (by rw [hAS.1]; omega) hAS.2.2.2.2.1 (by omega) (by omega) (by omega) ?_
                      rw [show (1 : Int).toNat = 1 from rfl, hf4 1 (by decide), mnV5 ψ n 1 (by decide)]
                      have q488 := hG 2 (92 + 1)
                      rw [show 92 + 1 = 93 from rfl] at q488 ⊢
                      refine LW_icle (tg := 500) i_56_488 (by decide) (by omega) (by omega) (fun h488 => ?_) (fun h488 => ?_)
                      · exact LW_fg h500 (by repeat (first | exact trivial | refine ⟨rfl, ?_⟩))
                      refine LW_aload_n i_56_491 (by rfl) ?_
                      refine LW_bipush i_56_492 (by decide) ?_
                      refine LW_v1P (j := 0) i_56_494 v_56_34 (by omega) (by decide +kernel) rfl rfl (Nat.le_of_ble_eq_true rfl) (by assumption) rfl rfl (m_15 n hnf hn8 hSf hYf hGf 6 (by decide)) (fun x494 hx494 => ?_)
                      have e494 : x494 = φ 2 88 := hx494
                      have g494 := hGf 2 88
                      refine LW_ifeq (tg := 550) i_56_497 (by decide) (by omega) (fun h497 => ?_) (fun h497 => ?_)
                      · exfalso; omega
                      exact LW_fg h500 (by repeat (first | exact trivial | refine ⟨rfl, ?_⟩))
                    have h391 : ∀ e : Int, (e = 1 ∧ (0 ≤ ψ 2 87 ∧ ψ 2 88 = 0) ∨ e = 0 ∧ ¬ (0 ≤ ψ 2 87 ∧ ψ 2 88 = 0)) → LW xs L0 56 391 [some (.ref 1), some (.int (jI (n : Int))), some (.ref X.1), some (.ref (X.1 + 1)), some (.ref (X.1 + 2)), some (.ref (X.1 + 3)), some (.int (jI x125)), some (.int (jI x7)), some (.int (jI x150)), some (.int (jI x158)), some (.int (jI x165)), some (.int (jI x172)), none, none, none, none, none] [.int (jI e)] φ X1 (fun x φ X' => 0 ≤ x ∧ x ≤ 6 ∧ INV φ n ∧ φ 2 86 = ψ 2 86 + 1 ∧ X'.1 = X.1 + 4 ∧ X'.2 131 = pl) := by
                      intro e he
                      refine LW_istore i_56_391 (by rw [l_56]; decide) (by rfl) ?_
                      refine LW_iload i_56_393 (by rfl) ?_
                      refine LW_ifne (tg := 444) i_56_395 (by decide) (by omega) (fun h395 => ?_) (fun h395 => ?_)
                      · exact LW_fg h444 (by repeat (first | exact trivial | refine ⟨rfl, ?_⟩))
                      have sN2 := sN (by omega)
                      refine LW_iload i_56_398 (by rfl) ?_
                      refine LW_ifgt (tg := 442) i_56_400 (by decide) (by omega) (fun h400 => ?_) (fun h400 => ?_)
                      · exfalso; omega
                      refine LW_aload_n i_56_403 (by rfl) ?_
                      refine LW_bipush i_56_404 (by decide) ?_
                      refine LW_v1P (j := 0) i_56_406 v_56_34 (by omega) (by decide +kernel) rfl rfl (Nat.le_of_ble_eq_true rfl) (by assumption) rfl rfl (m_15 n hnf hn8 hSf hYf hGf 10 (by decide)) (fun x406 hx406 => ?_)
                      have e406 : x406 = φ 2 92 := hx406
                      have g406 := hGf 2 92
                      refine LW_aload i_56_409 (by rfl) ?_
                      refine LW_iconst i_56_411 ?_
                      refine LW_iald i_56_412 (by omega) (by rw [hAS.1]; omega) hAS.2.2.2.2.1 (by omega) (by omega) (by omega) ?_
                      rw [show (0 : Int).toNat = 0 from rfl, hf4 0 (by decide), mnV5 ψ n 0 (by decide)]
                      have q413 := hG 2 (92 + 0)
                      rw [show 92 + 0 = 92 from rfl] at q413 ⊢
                      refine LW_icgt (tg := 442) i_56_413 (by decide) (by omega) (by omega) (fun h413 => ?_) (fun h413 => ?_)
                      · exfalso; omega
                      refine LW_aload_n i_56_416 (by rfl) ?_
                      refine LW_bipush i_56_417 (by decide) ?_
                      refine LW_v1P (j := 0) i_56_419 v_56_34 (by omega) (by decide +kernel) rfl rfl (Nat.le_of_ble_eq_true rfl) (by assumption) rfl rfl (m_15 n hnf hn8 hSf hYf hGf 11 (by decide)) (fun x419 hx419 => ?_)
                      have e419 : x419 = φ 2 93 := hx419
                      have g419 := hGf 2 93
                      refine LW_aload i_56_422 (by rfl) ?_
                      refine LW_iconst i_56_424 ?_
                      refine LW_iald i_56_425 (by omega) (by rw [hAS.1]; omega) hAS.2.2.2.2.1 (by omega) (by omega) (by omega) ?_
                      rw [show (1 : Int).toNat = 1 from rfl, hf4 1 (by decide), mnV5 ψ n 1 (by decide)]
                      have q426 := hG 2 (92 + 1)
                      rw [show 92 + 1 = 93 from rfl] at q426 ⊢
                      refine LW_icgt (tg := 442) i_56_426 (by decide) (by omega) (by omega) (fun h426 => ?_) (fun h426 => ?_)
                      · exfalso; omega
                      refine LW_aload_n i_56_429 (by rfl) ?_
                      refine LW_bipush i_56_430 (by decide) ?_
                      refine LW_v1P (j := 0) i_56_432 v_56_34 (by omega) (by decide +kernel) rfl rfl (Nat.le_of_ble_eq_true rfl) (by assumption) rfl rfl (m_15 n hnf hn8 hSf hYf hGf 14 (by decide)) (fun x432 hx432 => ?_)
                      have e432 : x432 = φ 2 96 := hx432
                      have g432 := hGf 2 96
                      refine LW_aload i_56_435 (by rfl) ?_
                      refine LW_iconst i_56_437 ?_
                      refine LW_iald i_56_438 (by omega) (by rw [hAS.1]; omega) hAS.2.2.2.2.1 (by omega) (by omega) (by omega) ?_
                      rw [show (4 : Int).toNat = 4 from rfl, hf4 4 (by decide), mnV5 ψ n 4 (by decide)]
                      have q439 := hG 2 (92 + 4)
                      rw [show 92 + 4 = 96 from rfl] at q439 ⊢
                      refine LW_icle (tg := 444) i_56_439 (by decide) (by omega) (by omega) (fun h439 => ?_) (fun h439 => ?_)
                      · exact LW_fg h444 (by repeat (first | exact trivial | refine ⟨rfl, ?_⟩))
                      exfalso; omega
                    refine LW_iload i_56_376 (by rfl) ?_
                    refine LW_iflt (tg := 390) i_56_378 (by decide) (by omega) (fun h378 => ?_) (fun h378 => ?_)
                    · refine LW_iconst i_56_390 ?_
                      exact LW_fg (h391 _ (by omega)) (by repeat (first | exact trivial | refine ⟨rfl, ?_⟩))
                    refine LW_iload i_56_381 (by rfl) ?_
                    refine LW_ifne (tg := 390) i_56_383 (by decide) (by omega) (fun h383 => ?_) (fun h383 => ?_)
                    · refine LW_iconst i_56_390 ?_
                      exact LW_fg (h391 _ (by omega)) (by repeat (first | exact trivial | refine ⟨rfl, ?_⟩))
                    refine LW_iconst i_56_386 ?_
                    refine LW_goto (tg := 391) i_56_387 (by decide) ?_
                    exact LW_fg (h391 _ (by omega)) (by repeat (first | exact trivial | refine ⟨rfl, ?_⟩))
                  exfalso; omega
                · exact ⟨rfl, rfl⟩
              exfalso; omega
            · exact ⟨rfl, rfl, by omega, by omega⟩
          refine LW_icne (tg := 144) i_56_137 (by decide) (by omega) (by omega) (fun h137 => ?_) (fun h137 => ?_)
          · refine LW_iconst i_56_144 ?_
            exact LW_fg (h145 _ (by omega)) (by repeat (first | exact trivial | refine ⟨rfl, ?_⟩))
          refine LW_iconst i_56_140 ?_
          refine LW_goto (tg := 145) i_56_141 (by decide) ?_
          exact LW_fg (h145 _ (by omega)) (by repeat (first | exact trivial | refine ⟨rfl, ?_⟩))
        exfalso; omega
      · exact ⟨rfl, f1, f2, f3, f4, hAS, hf, fun j hj => absurd hj (Nat.not_lt_zero j)⟩
    exfalso; omega
  · exact ⟨rfl, _, _, _, _, hAS0, fun j hj => absurd hj (Nat.not_lt_zero j), fun j hj => rfl⟩
end P41
