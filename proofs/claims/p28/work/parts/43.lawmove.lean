/-! the law: moves, move -/
theorem LW_forP {xs : Nat → Int32} {L0 y pc : Nat} {st : List Value} {ψ : jSt} {X : gM} {P : Int → jSt → gM → Prop} {σ : Type} {N : Nat} {I : Nat → σ → Prop} {Lf : Nat → σ → List (Option Value)}
    (hb : ∀ i s, i < N → I i s → (∀ s', I (i + 1) s' → LW xs L0 y pc (Lf (i + 1) s') st ψ X P) → LW xs L0 y pc (Lf i s) st ψ X P)
    (he : ∀ s, I N s → LW xs L0 y pc (Lf N s) st ψ X P) (k i : Nat) (s : σ) (hi : i + k = N) (h : I i s) : LW xs L0 y pc (Lf i s) st ψ X P :=
  LW_for (I := fun i s ψ1 X1 => ψ1 = ψ ∧ X1 = X ∧ I i s) (fun i s ψ1 X1 hi h K => by
    obtain ⟨h1, h2, h3⟩ := h
    rw [h1, h2]
    exact hb i s hi h3 fun s' h' => K s' ψ X ⟨rfl, rfl, h'⟩) (fun s ψ1 X1 h => by
    obtain ⟨h1, h2, h3⟩ := h
    rw [h1, h2]
    exact he s h3) k i s ψ X hi ⟨rfl, rfl, h⟩
section P43
variable {xs : Nat → Int32} {L0 : Nat}
theorem m_28 {ψ : jSt} {X : gM} (c mc : Nat) (h83 : ψ 2 83 ≤ 6) (hc : (c : Int) < ψ 2 83) (hmc : ψ (2 + 11 + 8 * c) 21 = (mc : Int)) (h21 : ψ (2 + 11 + 8 * c) 21 ≤ 6) (hbar : ∀ m : Nat, m < mc → 0 ≤ ψ (2 + 13 + 8 * c + m) 40) (hG : jG ψ) (hX : 132 ≤ X.1) : LW xs L0 28 0 ([some (.ref 1), some (.int (jI (c : Int)))] ++ List.replicate 2 none) [] ψ X (fun x φ X' => x = ψ (2 + 11 + 8 * c) 21 ∧ φ = ψ ∧ X'.1 ≤ X.1 + 1 ∧ X'.2 131 = X.2 131) := by
  have hT := jTow1
  refine LW_iconst i_28_0 ?_
  refine LW_istore_n i_28_1 (by rw [l_28]; decide) (by rfl) ?_
  refine LW_fg (L' := [some (.ref 1), some (.int (jI (c : Int))), some (.int (jI (((0 : Nat) : Int)))), none]) ?_ (by repeat (first | exact trivial | refine ⟨rfl, ?_⟩))
  refine LW_forP (σ := Unit) (N := mc) (I := fun i _ => True) (Lf := fun i _ => [some (.ref 1), some (.int (jI (c : Int))), some (.int (jI ((i : Int)))), none]) ?_ ?_ mc 0 () (by omega) trivial
  · intro i u hi hI hK
    refine LW_iload_n i_28_2 (by rfl) ?_
    refine LW_bipush i_28_3 (by decide) ?_
    refine LW_icge (tg := 32) i_28_5 (by decide) (by omega) (by omega) (fun h5 => ?_) (fun h5 => ?_)
    · exfalso; omega
    refine LW_aload_n i_28_8 (by rfl) ?_
    refine LW_iload_n i_28_9 (by rfl) ?_
    refine LW_iload_n i_28_10 (by rfl) ?_
    refine LW_iconst i_28_11 ?_
    refine LW_v3P (j := 1) i_28_12 v_28_65 (by omega) (by decide +kernel) rfl rfl (Nat.le_of_ble_eq_true rfl) (by assumption) rfl rfl (m_27 h83 c i 0 hc h21 (by decide) hG (by omega)) (fun x12 hx12 => ?_)
    have e12 : x12 = ψ (2 + 13 + 8 * c + i) 40 := hx12
    have g12 := hG (2 + 13 + 8 * c + i) 40
    have b12 := hbar i (by omega)
    refine LW_ifge (tg := 20) i_28_15 (by decide) (by omega) (fun h15 => ?_) (fun h15 => ?_)
    · refine LW_goto (tg := 26) i_28_20 (by decide) ?_
      refine LW_iinc i_28_26 (by rfl) (by rw [l_28]; decide) (by rfl) ?_
      refine LW_goto (tg := 2) i_28_29 (by decide) ?_
      exact LW_fg (hK () trivial) (by repeat (first | exact trivial | refine ⟨rfl, ?_⟩))
    exfalso; omega
  · intro u hI
    refine LW_iload_n i_28_2 (by rfl) ?_
    refine LW_bipush i_28_3 (by decide) ?_
    refine LW_icge (tg := 32) i_28_5 (by decide) (by omega) (by omega) (fun h5 => ?_) (fun h5 => ?_)
    · refine LW_bipush i_28_32 (by decide) ?_
      refine LW_iret i_28_34 r_28 ?_
      exact ⟨by omega, rfl, by omega, rfl⟩
    refine LW_aload_n i_28_8 (by rfl) ?_
    refine LW_iload_n i_28_9 (by rfl) ?_
    refine LW_iload_n i_28_10 (by rfl) ?_
    refine LW_iconst i_28_11 ?_
    refine LW_v3Y (j := 1) (hh := 23) i_28_12 v_28_65 (by omega) (by decide +kernel) rfl rfl (Nat.le_of_ble_eq_true rfl) (by assumption) rfl rfl (by decide +kernel) (m_27x h83 c mc 0 hc h21 (by decide) hG (by omega) (by omega)) ?_
    refine LW_astore_n i_28_23 (by rw [l_28]; decide) (by rfl) (by first | omega | (dsimp only; omega)) ?_
    refine LW_iload_n i_28_24 (by rfl) ?_
    refine LW_iret i_28_25 r_28 ?_
    refine ⟨by omega, rfl, Nat.le_refl _, ?_⟩
    show va_up X.2 X.1 none 131 = X.2 131
    unfold va_up
    rw [if_neg (by omega)]
theorem m_31 {ψ : jSt} {X : gM} {n c b : Nat} {t s d : Int} (hI : INV ψ n) (hc : c < 4) (hb : b < n) (ht : 0 ≤ t ∧ t ≤ 120) (hs : 1 ≤ s ∧ s ≤ 6) (hd : 0 ≤ d ∧ d ≤ 20) (hX : 132 ≤ X.1) : LW xs L0 31 0 ([some (.ref 1), some (.int (jI (c : Int))), some (.int (jI (b : Int))), some (.int (jI t)), some (.int (jI s)), some (.int (jI d))] ++ List.replicate 1 none) [] ψ X (fun x φ X' => (q30 ψ n c b x φ ∧ X' = X) ∨ (x = -1 ∧ φ = ψ ∧ X'.1 = X.1 + 1 ∧ X'.2 131 = X.2 131)) := by
  have hT := jTow1
  refine LW_aload_n i_31_0 (by rfl) ?_
  refine LW_iload_n i_31_1 (by rfl) ?_
  refine LW_iload_n i_31_2 (by rfl) ?_
  refine LW_iload_n i_31_3 (by rfl) ?_
  refine LW_iload i_31_4 (by rfl) ?_
  refine LW_iload i_31_6 (by rfl) ?_
  refine LW_inv (args := [.int (jI d), .int (jI s), .int (jI t), .int (jI (b : Int)), .int (jI (c : Int))]) (j := 3) i_31_8 (fun _ => rfl) rfl rfl (by decide) v_31_102 (by omega) (by decide +kernel) rfl rfl (Nat.le_of_ble_eq_true rfl) hT rfl rfl (m_30 hI hc hb ht hs hd) (fun o φ hQ => ?_)
  rcases hQ with ⟨x, rfl, hq⟩ | ⟨rfl, hq⟩
  · refine Or.inl ⟨_, rfl, ?_⟩
    show LW xs L0 31 11 _ [.int (jI x)] φ X _
    exact LW_iret i_31_11 r_31 (Or.inl ⟨hq, rfl⟩)
  · refine Or.inr ⟨_, 12, rfl, by decide +kernel, ?_⟩
    rw [hq]
    refine LW_astore i_31_12 (by rw [l_31]; decide) (by rfl) (by first | omega | (dsimp only; omega)) ?_
    refine LW_iconst i_31_14 ?_
    refine LW_iret i_31_15 r_31 ?_
    refine Or.inr ⟨rfl, rfl, rfl, ?_⟩
    show va_up X.2 X.1 none 131 = X.2 131
    unfold va_up
    rw [if_neg (by omega)]
end P43
