/-! the law: isSo -/
theorem jor0_T : (List.range 256).all (fun m => (List.range 8).all fun k => decide (jI (m : Int) ||| (jI 0 <<< (jI (k : Int) &&& 31)) = jI (m : Int))) = true := by decide +kernel
theorem jor0 {m k : Nat} (hm : m < 256) (hk : k < 8) : jI (m : Int) ||| (jI 0 <<< (jI (k : Int) &&& 31)) = jI (m : Int) :=
  of_decide_eq_true (List.all_eq_true.mp (List.all_eq_true.mp jor0_T m (List.mem_range.mpr hm)) k (List.mem_range.mpr hk))
theorem brk_put {ψ : jSt} {r k : Nat} {x : Int} (hk : k < 8) (hx : x = ψ (r + 2 + k) 10) (h01 : ψ (r + 2 + k) 10 = 0 ∨ ψ (r + 2 + k) 10 = 1) : jI (brk ψ r k : Int) ||| (jI x <<< (jI (k : Int) &&& 31)) = jI (brk ψ r (k + 1) : Int) := by
  subst hx
  show _ = jI ((if ψ (r + 2 + k) 10 = 0 then brk ψ r k else brk ψ r k + 2 ^ k : Nat) : Int)
  rcases h01 with q | q
  · rw [if_pos q, q, jor0 (brk_8 ψ r (by omega)) hk]
  · rw [if_neg (by omega), q, jor hk (brk_lt ψ r k)]
theorem INV_sq {ω ψ : jSt} {n : Nat} (hW : INV ω n) (h : jSq ω ψ) : INV ψ n := by
  obtain ⟨_, hS, hY, hR, hN, hL, i81, i83, i103, hP⟩ := hW
  have hlo : ∀ a k, a < 61 → ψ a k = ω a k := fun a k q => h.2 a k (live_lo q)
  have hhi : ∀ a k, 120 ≤ a → ψ a k = ω a k := fun a k q => h.2 a k (by
    have h83 := hS.2.1
    have h81 := hS.1
    rintro (q2 | ⟨b, q1, q2, q3⟩ | ⟨c, q1, q2, q3⟩ | ⟨c, m, q1, q2, q3, q4⟩)
    · omega
    · omega
    · omega
    · have := (hS.2.2.2.2.1 c (by omega)).1
      omega)
  have e21 : ∀ c : Nat, c < 6 → ψ (2 + 11 + 8 * c) 21 = ω (2 + 11 + 8 * c) 21 := fun c hc => hlo _ _ (by omega)
  obtain ⟨s81, s83, s84, sB, sC, sM, sD⟩ := hS
  obtain ⟨y86, y87, y88, y89, yk, yb, ym, yr, yn, yo⟩ := hY
  have eo : opn ψ 2 = opn ω 2 := by
    unfold opn
    rw [hlo 2 87 (by decide)]
    by_cases q : ω 2 87 = -1
    · rw [if_pos q, if_pos q]
    · rw [if_neg q, if_neg q]
      obtain ⟨c, hc⟩ := Int.eq_ofNat_of_zero_le (show 0 ≤ ω 2 87 by omega)
      rw [hc, Int.toNat_natCast, e21 c (by omega)]
      refine opc_eq (fun j hj => hlo _ _ ?_)
      have := (sC c (by omega)).1
      omega
  refine ⟨h.1, ⟨by rw [hlo _ _ (by decide)]; exact s81, by rw [hlo _ _ (by decide)]; exact s83, by rw [hlo _ _ (by decide)]; exact s84, fun b hb => ?_, fun c hc => by rw [hlo _ _ (by omega), hlo _ _ (by omega)]; exact sC c hc, fun c m hc hm => ?_, fun c m m' hc hm hm' hq => ?_⟩, ⟨by rw [hlo _ _ (by decide)]; exact y86, by rw [hlo _ _ (by decide), hlo _ _ (by decide)]; exact y87, by rw [hlo _ _ (by decide)]; exact y88, by rw [hlo _ _ (by decide), hlo _ _ (by decide)]; exact y89, fun k k1 k2 => by rw [hlo _ _ (by decide), hlo _ _ (by decide)]; exact yk k k1 k2, fun b hb => by rw [hlo _ _ (by omega), hlo _ _ (by omega), hlo _ _ (by decide)]; exact yb b hb, fun c m hc hm => ?_, fun c hc m hm => ?_, fun q => by rw [hlo _ _ (by decide)] at q ⊢; exact yn q, fun q => by rw [eo] at q; rw [hlo _ _ (by decide)]; exact yo q⟩, ⟨fun b hb => ?_, fun b hb hq k k1 k2 => ?_, fun c hc hq => ?_⟩, fun c m hc hm hq => ?_, fun b hb => ?_, by rw [hlo _ _ (by decide)]; exact i81, by rw [hlo _ _ (by decide)]; exact i83, by rw [hlo _ _ (by decide)]; exact i103, fun p hp => ?_⟩
  · have hs := sB b hb
    unfold jsB at *
    rw [hlo _ 0 (by omega), hlo _ 1 (by omega), hlo _ 2 (by omega), hlo _ 4 (by omega), hlo _ 5 (by omega), hlo _ 6 (by omega), hlo _ 7 (by omega), hlo _ 8 (by omega), hlo _ 9 (by omega), hlo _ 10 (by omega)]
    exact hs
  · rw [e21 c hc] at hm
    have := (sC c hc).1
    unfold jsM
    rw [hlo _ 40 (by omega), hlo _ 41 (by omega), hlo _ 42 (by omega), hlo _ 43 (by omega), hlo _ 81 (by decide)]
    exact sM c m hc hm
  · rw [e21 c hc] at hm hm'
    have := (sC c hc).1
    rw [hlo _ 40 (by omega), hlo _ 40 (by omega)] at hq
    exact sD c m m' hc hm hm' hq
  · rw [e21 c hc] at hm
    have := (sC c hc).1
    rw [hlo _ 44 (by omega), hlo _ 45 (by omega), hlo _ 86 (by decide)]
    exact ym c m hc hm
  · rw [hlo _ _ (by decide)] at hc
    rw [e21 c (by omega)] at hm
    have := (sC c (by omega)).1
    rw [hlo _ 44 (by omega)]
    exact yr c hc m hm
  · rw [h.2 _ _ (by rintro (q2 | ⟨b, q1, q2, q3⟩ | ⟨c, q1, q2, q3⟩ | ⟨c, m, q1, q2, q3, q4⟩) <;> omega)]
    exact hR.1 b hb
  · rw [hlo _ _ (by decide)] at hq
    rw [h.2 _ _ (by rintro (q2 | ⟨b, q1, q2, q3⟩ | ⟨c, q1, q2, q3⟩ | ⟨c, m, q1, q2, q3, q4⟩) <;> omega)]
    exact hR.2.1 b hb hq k k1 k2
  · rw [hlo _ _ (by decide)] at hq
    rw [h.2 _ _ (by rintro (q2 | ⟨b, q1, q2, q3⟩ | ⟨c, q1, q2, q3⟩ | ⟨c, m, q1, q2, q3, q4⟩) <;> omega), h.2 _ _ (by rintro (q2 | ⟨b, q1, q2, q3⟩ | ⟨c, q1, q2, q3⟩ | ⟨c, m, q1, q2, q3, q4⟩) <;> omega)]
    exact hR.2.2 c hc hq
  · rw [e21 c hc] at hq
    rw [hlo _ _ (by omega), hlo _ _ (by omega)]
    exact hN c m hc hm hq
  · have hl := hL b hb
    have c1 : ldW ψ b 8 = ldW ω b 8 := ldW_eq fun p _ => ⟨hhi _ _ (by omega), hhi _ _ (by omega)⟩
    have c2 : ldM ψ 61 b 8 = ldM ω 61 b 8 := ldM_eq fun p _ => ⟨hhi _ _ (by omega), hhi _ _ (by omega)⟩
    have c3 : ldM ψ 62 b 8 = ldM ω 62 b 8 := ldM_eq fun p _ => ⟨hhi _ _ (by omega), hhi _ _ (by omega)⟩
    rw [c1, c2, c3, hlo _ 5 (by omega), hlo _ 6 (by omega), hlo _ 7 (by omega), hlo _ 2 (by omega)]
    exact hl
  · unfold pcR
    rw [hhi _ 60 (by omega), hhi _ 61 (by omega), hhi _ 62 (by omega), hhi _ 63 (by omega)]
    exact hP p hp
theorem ld_step {ψ : jSt} {key b i : Nat} {z : Int} (hq : ψ (121 + i) 63 = (b : Int)) (h : ldM ψ key b i ≤ z ∧ ψ (121 + i) key ≤ z ∧ (z = ldM ψ key b i ∨ z = ψ (121 + i) key)) : z = ldM ψ key b (i + 1) := by
  show z = (if ψ (121 + i) 63 = (b : Int) then (if ldM ψ key b i ≤ ψ (121 + i) key then ψ (121 + i) key else ldM ψ key b i) else ldM ψ key b i)
  rw [if_pos hq]
  split <;> omega
section P44
variable {xs : Nat → Int32} {L0 : Nat}
theorem m_67 {ω : jSt} {n : Nat} (hW : INV ω n) (hn2 : 2 ≤ n) (hw86 : ω 2 86 ≤ 3000) : ∃ ψe, jSq ω ψe ∧ ∀ (pl : Option gE) (ψ : jSt) (X : gM), jSq ω ψ → 132 ≤ X.1 → X.2 131 = pl → LW xs L0 67 0 ([some (.ref 1), some (.int (jI (n : Int)))] ++ List.replicate 9 none) [] ψ X (fun x φ X' => x = 1 ∧ φ = ψe ∧ X'.1 ≤ X.1 + 20 ∧ X'.2 131 = pl) := by
  have hT := jTow1
  obtain ⟨wG, wS, wY, wR, wN, wL, wn, w83, w103, wP⟩ := id hW
  have hn8 : n ≤ 8 := by have := wS.1; omega
  obtain ⟨v5, ψe, he5, hrun5⟩ := m_66 (xs := xs) (L0 := L0) 5 (by decide) n 4 wn hn8 w83 (by decide) wS wY wR hw86 wG
  refine ⟨ψe, he5.1, fun pl ψ X hψ hX hpl => ?_⟩
  obtain ⟨hG, hS, hY, hR, hN, hL, hn, i83, i103, hP⟩ := INV_sq hW hψ
  refine LW_iconst i_67_0 ?_
  refine LW_istore_n i_67_1 (by rw [l_67]; decide) (by rfl) ?_
  refine LW_iconst i_67_2 ?_
  refine LW_istore_n i_67_3 (by rw [l_67]; decide) (by rfl) ?_
  refine LW_iconst i_67_4 ?_
  refine LW_istore i_67_5 (by rw [l_67]; decide) (by rfl) ?_
  refine LW_fg (L' := [some (.ref 1), some (.int (jI (n : Int))), some (.int (jI (brk ψ 2 0 : Int))), some (.int (jI (hsum ψ 2 0))), some (.int (jI ((0 : Nat) : Int))), none, none, none, none, none, none]) ?_ (by repeat (first | exact trivial | refine ⟨rfl, ?_⟩))
  refine LW_forP (σ := Unit) (N := n) (I := fun _ _ => True) (Lf := fun i _ => [some (.ref 1), some (.int (jI (n : Int))), some (.int (jI (brk ψ 2 i : Int))), some (.int (jI (hsum ψ 2 i))), some (.int (jI (i : Int))), none, none, none, none, none, none]) ?_ ?_ n 0 () (by omega) trivial
  · intro i u hi hI hK
    have hLD := hL i hi
    have hb10 := (hS.2.2.2.1 i (by omega)).2.2.2.2.2.2.2.2.2
    have hb1 := (hS.2.2.2.1 i (by omega)).2.1
    have hbh := (hY.2.2.2.2.2.1 i (by omega)).1
    have hb3 := (hS.2.2.2.1 i (by omega)).2.2.2.1
    have hbw := (hS.2.2.2.1 i (by omega)).2.2.2.2.2.2.1
    have hbn := (hS.2.2.2.1 i (by omega)).1
    have hhs := hsum_le (ψ := ψ) (r := 2) (k := i) (fun b hb => (hY.2.2.2.2.2.1 b (by omega)).1)
    have hbd : bdf ψ (2 + 2 + i) = if ψ (2 + 2 + i) 1 = 0 then ψ (2 + 2 + i) 5 - ψ (2 + 2 + i) 4 else 0 := rfl
    refine LW_iload i_67_7 (by rfl) ?_
    refine LW_iload_n i_67_9 (by rfl) ?_
    refine LW_icge (tg := 370) i_67_10 (by decide) (by omega) (by omega) (fun h10 => ?_) (fun h10 => ?_)
    · exfalso; omega
    refine LW_iconst i_67_13 ?_
    refine LW_istore i_67_14 (by rw [l_67]; decide) (by rfl) ?_
    refine LW_iconst i_67_16 ?_
    refine LW_istore i_67_17 (by rw [l_67]; decide) (by rfl) ?_
    refine LW_iconst i_67_19 ?_
    refine LW_istore i_67_20 (by rw [l_67]; decide) (by rfl) ?_
    refine LW_iconst i_67_22 ?_
    refine LW_istore i_67_23 (by rw [l_67]; decide) (by rfl) ?_
    refine LW_fg (L' := [some (.ref 1), some (.int (jI (n : Int))), some (.int (jI (brk ψ 2 i : Int))), some (.int (jI (hsum ψ 2 i))), some (.int (jI (i : Int))), some (.int (jI 0)), some (.int (jI 0)), some (.int (jI 0)), some (.int (jI ((0 : Nat) : Int))), none, none]) ?_ (by repeat (first | exact trivial | refine ⟨rfl, ?_⟩))
    refine LW_forP (σ := Int × Int × Int) (N := 8) (I := fun its s => s.1 = ldW ψ i its ∧ s.2.1 = ldM ψ 61 i its ∧ s.2.2 = ldM ψ 62 i its) (Lf := fun its s => [some (.ref 1), some (.int (jI (n : Int))), some (.int (jI (brk ψ 2 i : Int))), some (.int (jI (hsum ψ 2 i))), some (.int (jI (i : Int))), some (.int (jI s.1)), some (.int (jI s.2.1)), some (.int (jI s.2.2)), some (.int (jI (its : Int))), none, none]) ?_ ?_ 8 0 (0, 0, 0) (by omega) ⟨rfl, rfl, rfl⟩
    · intro its s hits hI2 hK2
      obtain ⟨w1, w2, w3⟩ := s
      obtain ⟨hw1, hw2, hw3⟩ := hI2
      have hw1 : w1 = ldW ψ i its := hw1
      have hw2 : w2 = ldM ψ 61 i its := hw2
      have hw3 : w3 = ldM ψ 62 i its := hw3
      have hwl := ldW_le (ψ := ψ) (b := (i : Int)) (k := its) (fun p hp => (hP p (by omega)).1)
      have hml := ldM_le (ψ := ψ) (key := 61) (b := (i : Int)) (M := 60) (by decide) (k := its) (fun p hp => (hP p (by omega)).1.2.1)
      have hml2 := ldM_le (ψ := ψ) (key := 62) (b := (i : Int)) (M := 2) (by decide) (k := its) (fun p hp => (hP p (by omega)).1.2.2)
      refine LW_iload i_67_25 (by rfl) ?_
      refine LW_bipush i_67_27 (by decide) ?_
      refine LW_icge (tg := 93) i_67_29 (by decide) (by omega) (by omega) (fun h29 => ?_) (fun h29 => ?_)
      · exfalso; omega
      refine LW_aload_n i_67_32 (by rfl) ?_
      refine LW_iload i_67_33 (by rfl) ?_
      refine LW_iconst i_67_35 ?_
      refine LW_v2P (j := 1) i_67_36 v_67_40 (by omega) (by decide +kernel) rfl rfl (Nat.le_of_ble_eq_true rfl) (by assumption) rfl rfl (m_20 (by omega) hG its 3 (by omega) (by decide)) (fun x36 hx36 => ?_)
      have e36 : x36 = ψ (121 + its) 63 := hx36
      have g36 := hG (121 + its) 63
      refine LW_iload i_67_39 (by rfl) ?_
      refine LW_iceq (tg := 47) i_67_41 (by decide) (by omega) (by omega) (fun h41 => ?_) (fun h41 => ?_)
      · refine LW_iload i_67_47 (by rfl) ?_
        refine LW_aload_n i_67_49 (by rfl) ?_
        refine LW_iload i_67_50 (by rfl) ?_
        refine LW_iconst i_67_52 ?_
        refine LW_v2P (j := 1) i_67_53 v_67_40 (by omega) (by decide +kernel) rfl rfl (Nat.le_of_ble_eq_true rfl) (by assumption) rfl rfl (m_20 (by omega) hG its 0 (by omega) (by decide)) (fun x53 hx53 => ?_)
        have e53 : x53 = ψ (121 + its) 60 := hx53
        have g53 := hG (121 + its) 60
        refine LW_iadd i_67_56 ?_
        refine LW_istore i_67_57 (by rw [l_67]; decide) (by rfl) ?_
        refine LW_iload i_67_59 (by rfl) ?_
        refine LW_aload_n i_67_61 (by rfl) ?_
        refine LW_iload i_67_62 (by rfl) ?_
        refine LW_iconst i_67_64 ?_
        refine LW_v2P (j := 1) i_67_65 v_67_40 (by omega) (by decide +kernel) rfl rfl (Nat.le_of_ble_eq_true rfl) (by assumption) rfl rfl (m_20 (by omega) hG its 1 (by omega) (by decide)) (fun x65 hx65 => ?_)
        have e65 : x65 = ψ (121 + its) 61 := hx65
        have g65 := hG (121 + its) 61
        refine LW_maxz i_67_68 v_67_49 (Nat.le_of_ble_eq_true rfl) (by decide +kernel) (by omega) (by omega) (fun z68 q68 => ?_)
        refine LW_istore i_67_71 (by rw [l_67]; decide) (by rfl) ?_
        refine LW_iload i_67_73 (by rfl) ?_
        refine LW_aload_n i_67_75 (by rfl) ?_
        refine LW_iload i_67_76 (by rfl) ?_
        refine LW_iconst i_67_78 ?_
        refine LW_v2P (j := 1) i_67_79 v_67_40 (by omega) (by decide +kernel) rfl rfl (Nat.le_of_ble_eq_true rfl) (by assumption) rfl rfl (m_20 (by omega) hG its 2 (by omega) (by decide)) (fun x79 hx79 => ?_)
        have e79 : x79 = ψ (121 + its) 62 := hx79
        have g79 := hG (121 + its) 62
        refine LW_maxz i_67_82 v_67_49 (Nat.le_of_ble_eq_true rfl) (by decide +kernel) (by omega) (by omega) (fun z82 q82 => ?_)
        refine LW_istore i_67_85 (by rw [l_67]; decide) (by rfl) ?_
        refine LW_iinc i_67_87 (by rfl) (by rw [l_67]; decide) (by rfl) ?_
        refine LW_goto (tg := 25) i_67_90 (by decide) ?_
        first
          | exact LW_fg (hK2 (w1 + x53, z68, z82) ⟨by show w1 + x53 = (if ψ (121 + its) 63 = (i : Int) then _ else _); rw [if_pos (by omega), hw1, e53], ld_step (by omega) (by rw [← hw2, ← e65]; exact q68), ld_step (by omega) (by rw [← hw3, ← e79]; exact q82)⟩) (by repeat (first | exact trivial | refine ⟨rfl, ?_⟩))
          | exact LW_fg (hK2 (w1, w2, w3) ⟨by show w1 = (if ψ (121 + its) 63 = (i : Int) then _ else _); rw [if_neg (by omega), hw1], by show w2 = (if ψ (121 + its) 63 = (i : Int) then _ else _); rw [if_neg (by omega), hw2], by show w3 = (if ψ (121 + its) 63 = (i : Int) then _ else _); rw [if_neg (by omega), hw3]⟩) (by repeat (first | exact trivial | refine ⟨rfl, ?_⟩))
      refine LW_goto (tg := 87) i_67_44 (by decide) ?_
      refine LW_iinc i_67_87 (by rfl) (by rw [l_67]; decide) (by rfl) ?_
      refine LW_goto (tg := 25) i_67_90 (by decide) ?_
      first
        | exact LW_fg (hK2 (w1 + x53, z68, z82) ⟨by show w1 + x53 = (if ψ (121 + its) 63 = (i : Int) then _ else _); rw [if_pos (by omega), hw1, e53], ld_step (by omega) (by rw [← hw2, ← e65]; exact q68), ld_step (by omega) (by rw [← hw3, ← e79]; exact q82)⟩) (by repeat (first | exact trivial | refine ⟨rfl, ?_⟩))
        | exact LW_fg (hK2 (w1, w2, w3) ⟨by show w1 = (if ψ (121 + its) 63 = (i : Int) then _ else _); rw [if_neg (by omega), hw1], by show w2 = (if ψ (121 + its) 63 = (i : Int) then _ else _); rw [if_neg (by omega), hw2], by show w3 = (if ψ (121 + its) 63 = (i : Int) then _ else _); rw [if_neg (by omega), hw3]⟩) (by repeat (first | exact trivial | refine ⟨rfl, ?_⟩))
    · intro s hI2
      obtain ⟨w1, w2, w3⟩ := s
      obtain ⟨hw1, hw2, hw3⟩ := hI2
      have hw1 : w1 = ldW ψ i 8 := hw1
      have hw2 : w2 = ldM ψ 61 i 8 := hw2
      have hw3 : w3 = ldM ψ 62 i 8 := hw3
      have hw5 : w1 = ψ (2 + 2 + i) 5 := by rw [hw1, hLD.1]
      have hw6 : w2 = ψ (2 + 2 + i) 6 := by rw [hw2, hLD.2.1]
      have hw7 : w3 = ψ (2 + 2 + i) 7 := by rw [hw3, hLD.2.2.1]
      have hgd := hG (2 + 2 + i) 6
      have hgw := hG (2 + 2 + i) 7
      have hwl := ldW_le (ψ := ψ) (b := (i : Int)) (k := 8) (fun p hp => (hP p (by omega)).1)
      refine LW_iload i_67_25 (by rfl) ?_
      refine LW_bipush i_67_27 (by decide) ?_
      refine LW_icge (tg := 93) i_67_29 (by decide) (by omega) (by omega) (fun h29 => ?_) (fun h29 => ?_)
      · have h109 : ∀ e : Int, (e = 1 ∧ ψ (2 + 2 + i) 1 = 1 ∨ e = 0 ∧ ψ (2 + 2 + i) 1 = 0) → LW xs L0 67 109 [some (.ref 1), some (.int (jI (n : Int))), some (.int (jI (brk ψ 2 i : Int))), some (.int (jI (hsum ψ 2 i))), some (.int (jI (i : Int))), some (.int (jI w1)), some (.int (jI w2)), some (.int (jI w3)), none, none, none] [.int (jI e)] ψ X (fun x φ X' => x = 1 ∧ φ = ψe ∧ X'.1 ≤ X.1 + 20 ∧ X'.2 131 = pl) := by
          intro e he
          refine LW_istore i_67_109 (by rw [l_67]; decide) (by rfl) ?_
          refine LW_iload_n i_67_111 (by rfl) ?_
          refine LW_aload_n i_67_112 (by rfl) ?_
          refine LW_iload i_67_113 (by rfl) ?_
          refine LW_bipush i_67_115 (by decide) ?_
          refine LW_v2P (j := 1) i_67_117 v_67_37 (by omega) (by decide +kernel) rfl rfl (Nat.le_of_ble_eq_true rfl) (by assumption) rfl rfl (m_18 n hn hn8 hS hG (i) 10 (by omega) (by decide)) (fun x117 hx117 => ?_)
          have e117 : x117 = ψ (2 + 2 + i) 10 := hx117
          have g117 := hG (2 + 2 + i) 10
          refine LW_iload i_67_120 (by rfl) ?_
          refine LW_ishl i_67_122 ?_
          refine LW_ior i_67_123 ?_
          rw [brk_put (by omega) e117 hb10]
          refine LW_istore_n i_67_124 (by rw [l_67]; decide) (by rfl) ?_
          refine LW_iload_n i_67_125 (by rfl) ?_
          refine LW_aload_n i_67_126 (by rfl) ?_
          refine LW_iload i_67_127 (by rfl) ?_
          refine LW_iconst i_67_129 ?_
          refine LW_v2P (j := 1) i_67_130 v_67_37 (by omega) (by decide +kernel) rfl rfl (Nat.le_of_ble_eq_true rfl) (by assumption) rfl rfl (m_18 n hn hn8 hS hG (i) 2 (by omega) (by decide)) (fun x130 hx130 => ?_)
          have e130 : x130 = ψ (2 + 2 + i) 3 := hx130
          have g130 := hG (2 + 2 + i) 3
          refine LW_iadd i_67_133 ?_
          rw [show hsum ψ 2 i + x130 = hsum ψ 2 (i + 1) by show _ = hsum ψ 2 i + ψ (2 + 2 + i) 3; omega]
          refine LW_istore_n i_67_134 (by rw [l_67]; decide) (by rfl) ?_
          have h249 : LW xs L0 67 249 [some (.ref 1), some (.int (jI (n : Int))), some (.int (jI (brk ψ 2 (i + 1) : Int))), some (.int (jI (hsum ψ 2 (i + 1)))), some (.int (jI (i : Int))), some (.int (jI w1)), some (.int (jI w2)), some (.int (jI w3)), none, none, none] [] ψ X (fun x φ X' => x = 1 ∧ φ = ψe ∧ X'.1 ≤ X.1 + 20 ∧ X'.2 131 = pl) := by
            skip
            refine LW_iconst i_67_249 ?_
            refine LW_istore i_67_250 (by rw [l_67]; decide) (by rfl) ?_
            refine LW_fg (L' := [some (.ref 1), some (.int (jI (n : Int))), some (.int (jI (brk ψ 2 (i + 1) : Int))), some (.int (jI (hsum ψ 2 (i + 1)))), some (.int (jI (i : Int))), some (.int (jI w1)), some (.int (jI w2)), some (.int (jI w3)), none, some (.int (jI ((0 : Nat) : Int))), none]) ?_ (by repeat (first | exact trivial | refine ⟨rfl, ?_⟩))
            refine LW_forP (σ := Unit) (N := i) (I := fun _ _ => True) (Lf := fun d _ => [some (.ref 1), some (.int (jI (n : Int))), some (.int (jI (brk ψ 2 (i + 1) : Int))), some (.int (jI (hsum ψ 2 (i + 1)))), some (.int (jI (i : Int))), some (.int (jI w1)), some (.int (jI w2)), some (.int (jI w3)), none, some (.int (jI (d : Int))), none]) ?_ ?_ i 0 () (by omega) trivial
            · intro d u2 hd hI3 hK3
              have hdn := (hS.2.2.2.1 d (by omega)).1
              have hdw := (hS.2.2.2.1 d (by omega)).2.2.2.2.2.2.1
              have hdd := (hS.2.2.2.1 d (by omega)).2.2.2.2.2.1
              have hbt : btc ψ (2 + 2 + i) (ψ (2 + 2 + i) 3) (2 + 2 + d) ↔ ((i : Int) - d ≤ ψ (2 + 2 + i) 7 + ψ (2 + 2 + d) 7 ∧ ψ (2 + 2 + i) 3 - ψ (2 + 2 + i) 6 ≤ ψ (2 + 2 + d) 3 ∧ ψ (2 + 2 + d) 3 - ψ (2 + 2 + d) 6 ≤ ψ (2 + 2 + i) 3) := by
                unfold btc
                omega
              have hbt2 : btc ψ (2 + 2 + d) (ψ (2 + 2 + d) 3) (2 + 2 + i) ↔ ((i : Int) - d ≤ ψ (2 + 2 + i) 7 + ψ (2 + 2 + d) 7 ∧ ψ (2 + 2 + i) 3 - ψ (2 + 2 + i) 6 ≤ ψ (2 + 2 + d) 3 ∧ ψ (2 + 2 + d) 3 - ψ (2 + 2 + d) 6 ≤ ψ (2 + 2 + i) 3) := by
                unfold btc
                omega
              refine LW_iload i_67_252 (by rfl) ?_
              refine LW_iload i_67_254 (by rfl) ?_
              refine LW_icge (tg := 364) i_67_256 (by decide) (by omega) (by omega) (fun h256 => ?_) (fun h256 => ?_)
              · exfalso; omega
              have h328 : ∀ e : Int, (e = 1 ∧ ((i : Int) - d ≤ ψ (2 + 2 + i) 7 + ψ (2 + 2 + d) 7 ∧ ψ (2 + 2 + i) 3 - ψ (2 + 2 + i) 6 ≤ ψ (2 + 2 + d) 3 ∧ ψ (2 + 2 + d) 3 - ψ (2 + 2 + d) 6 ≤ ψ (2 + 2 + i) 3) ∨ e = 0 ∧ ¬ ((i : Int) - d ≤ ψ (2 + 2 + i) 7 + ψ (2 + 2 + d) 7 ∧ ψ (2 + 2 + i) 3 - ψ (2 + 2 + i) 6 ≤ ψ (2 + 2 + d) 3 ∧ ψ (2 + 2 + d) 3 - ψ (2 + 2 + d) 6 ≤ ψ (2 + 2 + i) 3)) → LW xs L0 67 328 [some (.ref 1), some (.int (jI (n : Int))), some (.int (jI (brk ψ 2 (i + 1) : Int))), some (.int (jI (hsum ψ 2 (i + 1)))), some (.int (jI (i : Int))), some (.int (jI w1)), some (.int (jI w2)), some (.int (jI w3)), none, some (.int (jI (d : Int))), none] [.int (jI e)] ψ X (fun x φ X' => x = 1 ∧ φ = ψe ∧ X'.1 ≤ X.1 + 20 ∧ X'.2 131 = pl) := by
                intro e he
                refine LW_istore i_67_328 (by rw [l_67]; decide) (by rfl) ?_
                refine LW_aload_n i_67_330 (by rfl) ?_
                refine LW_iload i_67_331 (by rfl) ?_
                refine LW_iload i_67_333 (by rfl) ?_
                refine LW_v2P (j := 2) i_67_335 v_67_107 (by omega) (by decide +kernel) rfl rfl (Nat.le_of_ble_eq_true rfl) (by assumption) rfl rfl (m_43 n hn hn8 hG i d (by omega) (by omega)) (fun x335 hx335 => ?_)
                rw [hbt] at hx335
                refine LW_iload i_67_338 (by rfl) ?_
                refine LW_icne (tg := 356) i_67_340 (by decide) (by omega) (by omega) (fun h340 => ?_) (fun h340 => ?_)
                · exfalso; omega
                refine LW_aload_n i_67_343 (by rfl) ?_
                refine LW_iload i_67_344 (by rfl) ?_
                refine LW_iload i_67_346 (by rfl) ?_
                refine LW_v2P (j := 2) i_67_348 v_67_107 (by omega) (by decide +kernel) rfl rfl (Nat.le_of_ble_eq_true rfl) (by assumption) rfl rfl (m_43 n hn hn8 hG d i (by omega) (by omega)) (fun x348 hx348 => ?_)
                rw [hbt2] at hx348
                refine LW_iload i_67_351 (by rfl) ?_
                refine LW_iceq (tg := 358) i_67_353 (by decide) (by omega) (by omega) (fun h353 => ?_) (fun h353 => ?_)
                · refine LW_iinc i_67_358 (by rfl) (by rw [l_67]; decide) (by rfl) ?_
                  refine LW_goto (tg := 252) i_67_361 (by decide) ?_
                  exact LW_fg (hK3 () trivial) (by repeat (first | exact trivial | refine ⟨rfl, ?_⟩))
                exfalso; omega
              refine LW_iload i_67_259 (by rfl) ?_
              refine LW_iload i_67_261 (by rfl) ?_
              refine LW_isub i_67_263 ?_
              refine LW_iload i_67_264 (by rfl) ?_
              refine LW_aload_n i_67_266 (by rfl) ?_
              refine LW_iload i_67_267 (by rfl) ?_
              refine LW_bipush i_67_269 (by decide) ?_
              refine LW_v2P (j := 1) i_67_271 v_67_37 (by omega) (by decide +kernel) rfl rfl (Nat.le_of_ble_eq_true rfl) (by assumption) rfl rfl (m_18 n hn hn8 hS hG (d) 6 (by omega) (by decide)) (fun x271 hx271 => ?_)
              have e271 : x271 = ψ (2 + 2 + d) 7 := hx271
              have g271 := hG (2 + 2 + d) 7
              refine LW_iadd i_67_274 ?_
              refine LW_icgt (tg := 327) i_67_275 (by decide) (by omega) (by omega) (fun h275 => ?_) (fun h275 => ?_)
              · refine LW_iconst i_67_327 ?_
                exact LW_fg (h328 _ (by omega)) (by repeat (first | exact trivial | refine ⟨rfl, ?_⟩))
              refine LW_aload_n i_67_278 (by rfl) ?_
              refine LW_iload i_67_279 (by rfl) ?_
              refine LW_iconst i_67_281 ?_
              refine LW_v2P (j := 1) i_67_282 v_67_37 (by omega) (by decide +kernel) rfl rfl (Nat.le_of_ble_eq_true rfl) (by assumption) rfl rfl (m_18 n hn hn8 hS hG (i) 2 (by omega) (by decide)) (fun x282 hx282 => ?_)
              have e282 : x282 = ψ (2 + 2 + i) 3 := hx282
              have g282 := hG (2 + 2 + i) 3
              refine LW_iload i_67_285 (by rfl) ?_
              refine LW_isub i_67_287 ?_
              refine LW_aload_n i_67_288 (by rfl) ?_
              refine LW_iload i_67_289 (by rfl) ?_
              refine LW_iconst i_67_291 ?_
              refine LW_v2P (j := 1) i_67_292 v_67_37 (by omega) (by decide +kernel) rfl rfl (Nat.le_of_ble_eq_true rfl) (by assumption) rfl rfl (m_18 n hn hn8 hS hG (d) 2 (by omega) (by decide)) (fun x292 hx292 => ?_)
              have e292 : x292 = ψ (2 + 2 + d) 3 := hx292
              have g292 := hG (2 + 2 + d) 3
              refine LW_icgt (tg := 327) i_67_295 (by decide) (by omega) (by omega) (fun h295 => ?_) (fun h295 => ?_)
              · refine LW_iconst i_67_327 ?_
                exact LW_fg (h328 _ (by omega)) (by repeat (first | exact trivial | refine ⟨rfl, ?_⟩))
              refine LW_aload_n i_67_298 (by rfl) ?_
              refine LW_iload i_67_299 (by rfl) ?_
              refine LW_iconst i_67_301 ?_
              refine LW_v2P (j := 1) i_67_302 v_67_37 (by omega) (by decide +kernel) rfl rfl (Nat.le_of_ble_eq_true rfl) (by assumption) rfl rfl (m_18 n hn hn8 hS hG (d) 2 (by omega) (by decide)) (fun x302 hx302 => ?_)
              have e302 : x302 = ψ (2 + 2 + d) 3 := hx302
              have g302 := hG (2 + 2 + d) 3
              refine LW_aload_n i_67_305 (by rfl) ?_
              refine LW_iload i_67_306 (by rfl) ?_
              refine LW_iconst i_67_308 ?_
              refine LW_v2P (j := 1) i_67_309 v_67_37 (by omega) (by decide +kernel) rfl rfl (Nat.le_of_ble_eq_true rfl) (by assumption) rfl rfl (m_18 n hn hn8 hS hG (d) 5 (by omega) (by decide)) (fun x309 hx309 => ?_)
              have e309 : x309 = ψ (2 + 2 + d) 6 := hx309
              have g309 := hG (2 + 2 + d) 6
              refine LW_isub i_67_312 ?_
              refine LW_aload_n i_67_313 (by rfl) ?_
              refine LW_iload i_67_314 (by rfl) ?_
              refine LW_iconst i_67_316 ?_
              refine LW_v2P (j := 1) i_67_317 v_67_37 (by omega) (by decide +kernel) rfl rfl (Nat.le_of_ble_eq_true rfl) (by assumption) rfl rfl (m_18 n hn hn8 hS hG (i) 2 (by omega) (by decide)) (fun x317 hx317 => ?_)
              have e317 : x317 = ψ (2 + 2 + i) 3 := hx317
              have g317 := hG (2 + 2 + i) 3
              refine LW_icgt (tg := 327) i_67_320 (by decide) (by omega) (by omega) (fun h320 => ?_) (fun h320 => ?_)
              · refine LW_iconst i_67_327 ?_
                exact LW_fg (h328 _ (by omega)) (by repeat (first | exact trivial | refine ⟨rfl, ?_⟩))
              refine LW_iconst i_67_323 ?_
              refine LW_goto (tg := 328) i_67_324 (by decide) ?_
              exact LW_fg (h328 _ (by omega)) (by repeat (first | exact trivial | refine ⟨rfl, ?_⟩))
            · intro u2 hI3
              refine LW_iload i_67_252 (by rfl) ?_
              refine LW_iload i_67_254 (by rfl) ?_
              refine LW_icge (tg := 364) i_67_256 (by decide) (by omega) (by omega) (fun h256 => ?_) (fun h256 => ?_)
              · refine LW_iinc i_67_364 (by rfl) (by rw [l_67]; decide) (by rfl) ?_
                refine LW_goto (tg := 7) i_67_367 (by decide) ?_
                exact LW_fg (hK () trivial) (by repeat (first | exact trivial | refine ⟨rfl, ?_⟩))
              exfalso; omega
          refine LW_aload_n i_67_135 (by rfl) ?_
          refine LW_iload i_67_136 (by rfl) ?_
          refine LW_iconst i_67_138 ?_
          refine LW_v2P (j := 1) i_67_139 v_67_37 (by omega) (by decide +kernel) rfl rfl (Nat.le_of_ble_eq_true rfl) (by assumption) rfl rfl (m_18 n hn hn8 hS hG (i) 2 (by omega) (by decide)) (fun x139 hx139 => ?_)
          have e139 : x139 = ψ (2 + 2 + i) 3 := hx139
          have g139 := hG (2 + 2 + i) 3
          refine LW_iflt (tg := 247) i_67_142 (by decide) (by omega) (fun h142 => ?_) (fun h142 => ?_)
          · exfalso; omega
          refine LW_aload_n i_67_145 (by rfl) ?_
          refine LW_iload i_67_146 (by rfl) ?_
          refine LW_iconst i_67_148 ?_
          refine LW_v2P (j := 1) i_67_149 v_67_37 (by omega) (by decide +kernel) rfl rfl (Nat.le_of_ble_eq_true rfl) (by assumption) rfl rfl (m_18 n hn hn8 hS hG (i) 2 (by omega) (by decide)) (fun x149 hx149 => ?_)
          have e149 : x149 = ψ (2 + 2 + i) 3 := hx149
          have g149 := hG (2 + 2 + i) 3
          refine LW_bipush i_67_152 (by decide) ?_
          refine LW_icgt (tg := 247) i_67_154 (by decide) (by omega) (by omega) (fun h154 => ?_) (fun h154 => ?_)
          · exfalso; omega
          refine LW_aload_n i_67_157 (by rfl) ?_
          refine LW_iload i_67_158 (by rfl) ?_
          refine LW_iconst i_67_160 ?_
          refine LW_v2P (j := 1) i_67_161 v_67_37 (by omega) (by decide +kernel) rfl rfl (Nat.le_of_ble_eq_true rfl) (by assumption) rfl rfl (m_18 n hn hn8 hS hG (i) 4 (by omega) (by decide)) (fun x161 hx161 => ?_)
          have e161 : x161 = ψ (2 + 2 + i) 5 := hx161
          have g161 := hG (2 + 2 + i) 5
          refine LW_iload i_67_164 (by rfl) ?_
          refine LW_icne (tg := 247) i_67_166 (by decide) (by omega) (by omega) (fun h166 => ?_) (fun h166 => ?_)
          · exfalso; omega
          refine LW_iload i_67_169 (by rfl) ?_
          refine LW_aload_n i_67_171 (by rfl) ?_
          refine LW_iload i_67_172 (by rfl) ?_
          refine LW_iconst i_67_174 ?_
          refine LW_v2P (j := 1) i_67_175 v_67_37 (by omega) (by decide +kernel) rfl rfl (Nat.le_of_ble_eq_true rfl) (by assumption) rfl rfl (m_18 n hn hn8 hS hG (i) 1 (by omega) (by decide)) (fun x175 hx175 => ?_)
          have e175 : x175 = ψ (2 + 2 + i) 2 := hx175
          have g175 := hG (2 + 2 + i) 2
          refine LW_icgt (tg := 247) i_67_178 (by decide) (by omega) (by omega) (fun h178 => ?_) (fun h178 => ?_)
          · exfalso; omega
          refine LW_aload_n i_67_181 (by rfl) ?_
          refine LW_iload i_67_182 (by rfl) ?_
          refine LW_iconst i_67_184 ?_
          refine LW_v2P (j := 1) i_67_185 v_67_37 (by omega) (by decide +kernel) rfl rfl (Nat.le_of_ble_eq_true rfl) (by assumption) rfl rfl (m_18 n hn hn8 hS hG (i) 5 (by omega) (by decide)) (fun x185 hx185 => ?_)
          have e185 : x185 = ψ (2 + 2 + i) 6 := hx185
          have g185 := hG (2 + 2 + i) 6
          refine LW_iload i_67_188 (by rfl) ?_
          refine LW_icne (tg := 247) i_67_190 (by decide) (by omega) (by omega) (fun h190 => ?_) (fun h190 => ?_)
          · exfalso; omega
          refine LW_aload_n i_67_193 (by rfl) ?_
          refine LW_iload i_67_194 (by rfl) ?_
          refine LW_bipush i_67_196 (by decide) ?_
          refine LW_v2P (j := 1) i_67_198 v_67_37 (by omega) (by decide +kernel) rfl rfl (Nat.le_of_ble_eq_true rfl) (by assumption) rfl rfl (m_18 n hn hn8 hS hG (i) 6 (by omega) (by decide)) (fun x198 hx198 => ?_)
          have e198 : x198 = ψ (2 + 2 + i) 7 := hx198
          have g198 := hG (2 + 2 + i) 7
          refine LW_iload i_67_201 (by rfl) ?_
          refine LW_icne (tg := 247) i_67_203 (by decide) (by omega) (by omega) (fun h203 => ?_) (fun h203 => ?_)
          · exfalso; omega
          refine LW_aload_n i_67_206 (by rfl) ?_
          refine LW_iload i_67_207 (by rfl) ?_
          refine LW_bipush i_67_209 (by decide) ?_
          refine LW_v2P (j := 1) i_67_211 v_67_37 (by omega) (by decide +kernel) rfl rfl (Nat.le_of_ble_eq_true rfl) (by assumption) rfl rfl (m_18 n hn hn8 hS hG (i) 7 (by omega) (by decide)) (fun x211 hx211 => ?_)
          have e211 : x211 = bdf ψ (2 + 2 + i) := hx211
          have g211 := bdf_le hG (2 + 2 + i)
          refine LW_iload i_67_214 (by rfl) ?_
          have hbd1 : ψ (2 + 2 + i) 1 = 0 → bdf ψ (2 + 2 + i) = ψ (2 + 2 + i) 5 - ψ (2 + 2 + i) 4 := fun q => by rw [hbd, if_pos q]
          have hbd2 : ¬ ψ (2 + 2 + i) 1 = 0 → bdf ψ (2 + 2 + i) = 0 := fun q => by rw [hbd, if_neg q]
          refine LW_ifeq (tg := 223) i_67_216 (by decide) (by omega) (fun h216 => ?_) (fun h216 => ?_)
          · refine LW_iload i_67_223 (by rfl) ?_
            refine LW_aload_n i_67_225 (by rfl) ?_
            refine LW_iload i_67_226 (by rfl) ?_
            refine LW_iconst i_67_228 ?_
            refine LW_v2P (j := 1) i_67_229 v_67_37 (by omega) (by decide +kernel) rfl rfl (Nat.le_of_ble_eq_true rfl) (by assumption) rfl rfl (m_18 n hn hn8 hS hG (i) 3 (by omega) (by decide)) (fun x229 hx229 => ?_)
            have e229 : x229 = ψ (2 + 2 + i) 4 := hx229
            have g229 := hG (2 + 2 + i) 4
            refine LW_isub i_67_232 ?_
            refine LW_icne (tg := 247) i_67_233 (by decide) (by omega) (by omega) (fun h233 => ?_) (fun h233 => ?_)
            · exfalso; omega
            refine LW_aload_n i_67_236 (by rfl) ?_
            refine LW_iload i_67_237 (by rfl) ?_
            refine LW_iload i_67_239 (by rfl) ?_
            refine LW_v2P (j := 2) i_67_241 v_67_107 (by omega) (by decide +kernel) rfl rfl (Nat.le_of_ble_eq_true rfl) (by assumption) rfl rfl (m_43 n hn hn8 hG i i (by omega) (by omega)) (fun x241 hx241 => ?_)
            have hnt : ¬ x241 = 1 := fun q => (hx241.2.mp q).1 rfl
            refine LW_ifeq (tg := 249) i_67_244 (by decide) (by omega) (fun h244 => ?_) (fun h244 => ?_)
            · exact LW_fg h249 (by repeat (first | exact trivial | refine ⟨rfl, ?_⟩))
            exfalso; omega
          refine LW_iconst i_67_219 ?_
          refine LW_goto (tg := 233) i_67_220 (by decide) ?_
          refine LW_icne (tg := 247) i_67_233 (by decide) (by omega) (by omega) (fun h233 => ?_) (fun h233 => ?_)
          · exfalso; omega
          refine LW_aload_n i_67_236 (by rfl) ?_
          refine LW_iload i_67_237 (by rfl) ?_
          refine LW_iload i_67_239 (by rfl) ?_
          refine LW_v2P (j := 2) i_67_241 v_67_107 (by omega) (by decide +kernel) rfl rfl (Nat.le_of_ble_eq_true rfl) (by assumption) rfl rfl (m_43 n hn hn8 hG i i (by omega) (by omega)) (fun x241 hx241 => ?_)
          have hnt : ¬ x241 = 1 := fun q => (hx241.2.mp q).1 rfl
          refine LW_ifeq (tg := 249) i_67_244 (by decide) (by omega) (fun h244 => ?_) (fun h244 => ?_)
          · exact LW_fg h249 (by repeat (first | exact trivial | refine ⟨rfl, ?_⟩))
          exfalso; omega
        refine LW_aload_n i_67_93 (by rfl) ?_
        refine LW_iload i_67_94 (by rfl) ?_
        refine LW_iconst i_67_96 ?_
        refine LW_v2P (j := 1) i_67_97 v_67_37 (by omega) (by decide +kernel) rfl rfl (Nat.le_of_ble_eq_true rfl) (by assumption) rfl rfl (m_18 n hn hn8 hS hG (i) 0 (by omega) (by decide)) (fun x97 hx97 => ?_)
        have e97 : x97 = ψ (2 + 2 + i) 1 := hx97
        have g97 := hG (2 + 2 + i) 1
        refine LW_iconst i_67_100 ?_
        refine LW_icne (tg := 108) i_67_101 (by decide) (by omega) (by omega) (fun h101 => ?_) (fun h101 => ?_)
        · refine LW_iconst i_67_108 ?_
          exact LW_fg (h109 _ (by omega)) (by repeat (first | exact trivial | refine ⟨rfl, ?_⟩))
        refine LW_iconst i_67_104 ?_
        refine LW_goto (tg := 109) i_67_105 (by decide) ?_
        exact LW_fg (h109 _ (by omega)) (by repeat (first | exact trivial | refine ⟨rfl, ?_⟩))
      exfalso; omega
  · intro u hI
    refine LW_iload i_67_7 (by rfl) ?_
    refine LW_iload_n i_67_9 (by rfl) ?_
    refine LW_icge (tg := 370) i_67_10 (by decide) (by omega) (by omega) (fun h10 => ?_) (fun h10 => ?_)
    · refine LW_aload_n i_67_370 (by rfl) ?_
      refine LW_iconst i_67_371 ?_
      refine LW_v1P (j := 0) i_67_372 v_67_34 (by omega) (by decide +kernel) rfl rfl (Nat.le_of_ble_eq_true rfl) (by assumption) rfl rfl (m_15 n hn hn8 hS hY hG 5 (by decide)) (fun x372 hx372 => ?_)
      have e372 : x372 = ψ 2 87 := hx372
      have g372 := hG 2 87
      refine LW_istore i_67_375 (by rw [l_67]; decide) (by rfl) ?_
      have h450 : ∀ X1 : gM, X.1 ≤ X1.1 → X1.1 ≤ X.1 + 7 → X1.2 131 = pl → LW xs L0 67 450 [some (.ref 1), some (.int (jI (n : Int))), some (.int (jI (brk ψ 2 n : Int))), some (.int (jI (hsum ψ 2 n))), some (.int (jI x372)), some (.int (jI (opn ψ 2))), none, none, none, none, none] [] ψ X1 (fun x φ X' => x = 1 ∧ φ = ψe ∧ X'.1 ≤ X.1 + 20 ∧ X'.2 131 = pl) := by
        intro X1 hXa hXb hXp
        have hX1 : 132 ≤ X1.1 := by omega
        have ho6 := opn_6 hS hY
        refine LW_aload_n i_67_450 (by rfl) ?_
        refine LW_bipush i_67_451 (by decide) ?_
        refine LW_v1P (j := 0) i_67_453 v_67_34 (by omega) (by decide +kernel) rfl rfl (Nat.le_of_ble_eq_true rfl) (by assumption) rfl rfl (m_15 n hn hn8 hS hY hG 15 (by decide)) (fun x453 hx453 => ?_)
        have e453 : x453 = ((brk ψ 2 n : Nat) : Int) := hx453
        have g453 := brk_8 ψ 2 hn8
        refine LW_iload_n i_67_456 (by rfl) ?_
        refine LW_icne (tg := 531) i_67_457 (by decide) (by omega) (by omega) (fun h457 => ?_) (fun h457 => ?_)
        · exfalso; omega
        refine LW_aload_n i_67_460 (by rfl) ?_
        refine LW_bipush i_67_461 (by decide) ?_
        refine LW_v1P (j := 0) i_67_463 v_67_34 (by omega) (by decide +kernel) rfl rfl (Nat.le_of_ble_eq_true rfl) (by assumption) rfl rfl (m_15 n hn hn8 hS hY hG 8 (by decide)) (fun x463 hx463 => ?_)
        have e463 : x463 = opn ψ 2 := hx463
        have g463 := opn_bd hG 2
        refine LW_iload i_67_466 (by rfl) ?_
        refine LW_icne (tg := 531) i_67_468 (by decide) (by omega) (by omega) (fun h468 => ?_) (fun h468 => ?_)
        · exfalso; omega
        have hoy := hY.2.2.2.2.2.2.2.2.2
        have hny := hY.2.2.2.2.2.2.2.2.1
        have hon0 : ψ 2 87 = -1 → opn ψ 2 = 0 := fun q => by unfold opn; rw [if_pos q]
        have h87y := hY.2.1
        have h511 : LW xs L0 67 511 [some (.ref 1), some (.int (jI (n : Int))), some (.int (jI (brk ψ 2 n : Int))), some (.int (jI (hsum ψ 2 n))), some (.int (jI x372)), some (.int (jI (opn ψ 2))), none, none, none, none, none] [] ψ X1 (fun x φ X' => x = 1 ∧ φ = ψe ∧ X'.1 ≤ X.1 + 20 ∧ X'.2 131 = pl) := by
          have hhs := hsum_le (ψ := ψ) (r := 2) (k := n) (fun b hb => (hY.2.2.2.2.2.1 b (by omega)).1)
          obtain ⟨s, hs⟩ := Int.eq_ofNat_of_zero_le hhs.1
          have hfp := fp_at (s := s) hn2 hn8 (by omega)
          unfold fpOk fpN at hfp
          simp only [Bool.and_eq_true, decide_eq_true_eq] at hfp
          obtain ⟨hfp1, hfp2, hfp3, hfp4⟩ := hfp
          rw [← hs] at hfp1
          refine LW_aload_n i_67_511 (by rfl) ?_
          refine LW_v0B (j := 2) i_67_512 v_67_122 (by omega) (by decide +kernel) rfl rfl (Nat.le_of_ble_eq_true rfl) (by assumption) rfl rfl (m_57 n hn hn8 hn2 hfp1 hG) (fun x512 hx512 => ?_)
          rw [hx512, hs]
          refine LW_iload_n i_67_515 (by rfl) ?_
          refine LW_i2d i_67_516 ?_
          refine LW_dmul i_67_517 hfp2 ?_
          refine LW_iload_n i_67_518 (by rfl) ?_
          refine LW_i2d i_67_519 ?_
          refine LW_dsub i_67_520 hfp3 ?_
          refine LW_absd i_67_521 v_67_126 (Nat.le_of_ble_eq_true rfl) (by decide +kernel) hfp3 ?_
          refine LW_ldc2d i_67_524 c_67_129 ?_
          refine LW_dcmpl i_67_527 ?_
          rw [hfp4]
          refine LW_ifle (tg := 533) i_67_528 (by decide) (by omega) (fun h528 => ?_) (fun h528 => ?_)
          · refine LW_iconst i_67_533 ?_
            refine LW_istore i_67_534 (by rw [l_67]; decide) (by rfl) ?_
            refine LW_fg (L' := [some (.ref 1), some (.int (jI (n : Int))), none, none, none, none, some (.int (jI ((0 : Nat) : Int))), none, none, none, none]) ?_ (by repeat (first | exact trivial | refine ⟨rfl, ?_⟩))
            refine LW_for (σ := Unit) (N := 4) (I := fun i _ φ X2 => jSq ω φ ∧ X1.1 ≤ X2.1 ∧ X2.1 ≤ X1.1 + i ∧ X2.2 131 = pl) (Lf := fun i _ => [some (.ref 1), some (.int (jI (n : Int))), none, none, none, none, some (.int (jI (i : Int))), none, none, none, none]) ?_ ?_ 4 0 () ψ X1 (by omega) ?_
            · intro i u φ X2 hi hJ0 hK
              obtain ⟨hJ, hXc, hXd, hXq⟩ := hJ0
              have hGf := hJ.1
              obtain ⟨mc, hmc⟩ := Int.eq_ofNat_of_zero_le (wS.2.2.2.2.1 i (by omega)).1.1
              have hm6 := (wS.2.2.2.2.1 i (by omega)).1.2
              obtain ⟨v, ψx, hq, hrun⟩ := m_63 (xs := xs) (L0 := L0) (c := i) (mc := mc) n 4 wn hn8 w83 (by decide) wS wY wR hw86 wG (by omega) hmc (by omega)
              obtain ⟨hqS, hq1, hq2, hq3, hq4⟩ := hq
              have ex : ∀ a k, a < 61 → ψx a k = ω a k := fun a k h => hqS.2 a k (live_lo h)
              have hsM : ∀ c m : Nat, c < 6 → (m : Int) < ω (2 + 11 + 8 * c) 21 → jsM ω (2 + 13 + 8 * c + m) (ω 2 81) := wS.2.2.2.2.2.1
              have hX1 : 132 ≤ X2.1 := by omega
              refine LW_iload i_67_536 (by rfl) ?_
              refine LW_iconst i_67_538 ?_
              refine LW_icge (tg := 610) i_67_539 (by decide) (by omega) (by omega) (fun h539 => ?_) (fun h539 => ?_)
              · exfalso; omega
              refine LW_aload_n i_67_542 (by rfl) ?_
              refine LW_iload i_67_543 (by rfl) ?_
              refine LW_v1I (j := 0) i_67_545 v_67_131 (by omega) (by decide +kernel) rfl rfl (Nat.le_of_ble_eq_true rfl) (by assumption) rfl rfl (m_64 (hrun φ hJ)) (fun x545 φ545 hQ545 => ?_)
              rw [hQ545.2]
              refine LW_istore i_67_548 (by rw [l_67]; decide) (by rfl) ?_
              refine LW_aload_n i_67_550 (by rfl) ?_
              refine LW_iload i_67_551 (by rfl) ?_
              refine LW_v1I (j := 0) i_67_553 v_67_134 (by omega) (by decide +kernel) rfl rfl (Nat.le_of_ble_eq_true rfl) (by assumption) rfl rfl (m_65 (hrun ψx hqS) hqS.1) (fun x553 φ553 hQ553 => ?_)
              rw [hQ553.2]
              refine LW_istore i_67_556 (by rw [l_67]; decide) (by rfl) ?_
              refine LW_iload i_67_558 (by rfl) ?_
              refine LW_ifeq (tg := 602) i_67_560 (by decide) (by omega) (fun h560 => ?_) (fun h560 => ?_)
              · exfalso; omega
              refine LW_iload i_67_563 (by rfl) ?_
              refine LW_sipush i_67_565 (by decide) ?_
              refine LW_icgt (tg := 602) i_67_568 (by decide) (by omega) (by omega) (fun h568 => ?_) (fun h568 => ?_)
              · exfalso; omega
              refine LW_iload i_67_571 (by rfl) ?_
              refine LW_iflt (tg := 581) i_67_573 (by decide) (by omega) (fun h573 => ?_) (fun h573 => ?_)
              · refine LW_iload i_67_581 (by rfl) ?_
                refine LW_iload_n i_67_583 (by rfl) ?_
                refine LW_icge (tg := 602) i_67_584 (by decide) (by omega) (by omega) (fun h584 => ?_) (fun h584 => ?_)
                · exfalso; omega
                refine LW_aload_n i_67_587 (by rfl) ?_
                refine LW_iload i_67_588 (by rfl) ?_
                refine LW_l2I (j := 2) i_67_590 v_67_57 (by omega) (by decide +kernel) rfl rfl (Nat.le_of_ble_eq_true rfl) (by first | rfl | (simp only [List.all_cons, List.all_nil, g_ok, Bool.and_true, Bool.true_and, Bool.and_eq_true, decide_eq_true_eq] <;> first | assumption | exact ⟨by assumption, by assumption⟩ | exact ⟨by assumption, by assumption, by assumption⟩ | omega)) rfl (m_28 i mc (by rw [ex 2 83 (by decide)]; omega) (by rw [ex 2 83 (by decide)]; omega) (by rw [ex _ 21 (by omega)]; exact hmc) (by rw [ex _ 21 (by omega)]; omega) (fun m hm => by rw [ex _ 40 (by omega)]; exact (hsM i m (by omega) (by omega)).1) hqS.1 hX1) (fun x590 φ590 X3 hle590 hQ590 => ?_)
                obtain ⟨hx590, e590, hXb, hXp⟩ := hQ590
                rw [e590]
                rw [ex _ 21 (by omega)] at hx590
                refine LW_ifne (tg := 604) i_67_593 (by decide) (by omega) (fun h593 => ?_) (fun h593 => ?_)
                · refine LW_iinc i_67_604 (by rfl) (by rw [l_67]; decide) (by rfl) ?_
                  refine LW_goto (tg := 536) i_67_607 (by decide) ?_
                  first
                    | exact LW_fg (hK () _ _ ⟨hqS, by omega, by omega, by rw [hXp]; exact hXq⟩) (by repeat (first | exact trivial | refine ⟨rfl, ?_⟩))
                    | exact LW_fg (hK () _ _ ⟨hqS, by omega, by omega, hXq⟩) (by repeat (first | exact trivial | refine ⟨rfl, ?_⟩))
                refine LW_iload i_67_596 (by rfl) ?_
                refine LW_iconst i_67_598 ?_
                refine LW_iceq (tg := 604) i_67_599 (by decide) (by omega) (by omega) (fun h599 => ?_) (fun h599 => ?_)
                · refine LW_iinc i_67_604 (by rfl) (by rw [l_67]; decide) (by rfl) ?_
                  refine LW_goto (tg := 536) i_67_607 (by decide) ?_
                  first
                    | exact LW_fg (hK () _ _ ⟨hqS, by omega, by omega, by rw [hXp]; exact hXq⟩) (by repeat (first | exact trivial | refine ⟨rfl, ?_⟩))
                    | exact LW_fg (hK () _ _ ⟨hqS, by omega, by omega, hXq⟩) (by repeat (first | exact trivial | refine ⟨rfl, ?_⟩))
                exfalso; omega
              refine LW_iload i_67_576 (by rfl) ?_
              refine LW_ifge (tg := 602) i_67_578 (by decide) (by omega) (fun h578 => ?_) (fun h578 => ?_)
              · exfalso; omega
              refine LW_iload i_67_581 (by rfl) ?_
              refine LW_iload_n i_67_583 (by rfl) ?_
              refine LW_icge (tg := 602) i_67_584 (by decide) (by omega) (by omega) (fun h584 => ?_) (fun h584 => ?_)
              · exfalso; omega
              refine LW_aload_n i_67_587 (by rfl) ?_
              refine LW_iload i_67_588 (by rfl) ?_
              refine LW_l2I (j := 2) i_67_590 v_67_57 (by omega) (by decide +kernel) rfl rfl (Nat.le_of_ble_eq_true rfl) (by first | rfl | (simp only [List.all_cons, List.all_nil, g_ok, Bool.and_true, Bool.true_and, Bool.and_eq_true, decide_eq_true_eq] <;> first | assumption | exact ⟨by assumption, by assumption⟩ | exact ⟨by assumption, by assumption, by assumption⟩ | omega)) rfl (m_28 i mc (by rw [ex 2 83 (by decide)]; omega) (by rw [ex 2 83 (by decide)]; omega) (by rw [ex _ 21 (by omega)]; exact hmc) (by rw [ex _ 21 (by omega)]; omega) (fun m hm => by rw [ex _ 40 (by omega)]; exact (hsM i m (by omega) (by omega)).1) hqS.1 hX1) (fun x590 φ590 X3 hle590 hQ590 => ?_)
              obtain ⟨hx590, e590, hXb, hXp⟩ := hQ590
              rw [e590]
              rw [ex _ 21 (by omega)] at hx590
              refine LW_ifne (tg := 604) i_67_593 (by decide) (by omega) (fun h593 => ?_) (fun h593 => ?_)
              · refine LW_iinc i_67_604 (by rfl) (by rw [l_67]; decide) (by rfl) ?_
                refine LW_goto (tg := 536) i_67_607 (by decide) ?_
                first
                  | exact LW_fg (hK () _ _ ⟨hqS, by omega, by omega, by rw [hXp]; exact hXq⟩) (by repeat (first | exact trivial | refine ⟨rfl, ?_⟩))
                  | exact LW_fg (hK () _ _ ⟨hqS, by omega, by omega, hXq⟩) (by repeat (first | exact trivial | refine ⟨rfl, ?_⟩))
              refine LW_iload i_67_596 (by rfl) ?_
              refine LW_iconst i_67_598 ?_
              refine LW_iceq (tg := 604) i_67_599 (by decide) (by omega) (by omega) (fun h599 => ?_) (fun h599 => ?_)
              · refine LW_iinc i_67_604 (by rfl) (by rw [l_67]; decide) (by rfl) ?_
                refine LW_goto (tg := 536) i_67_607 (by decide) ?_
                first
                  | exact LW_fg (hK () _ _ ⟨hqS, by omega, by omega, by rw [hXp]; exact hXq⟩) (by repeat (first | exact trivial | refine ⟨rfl, ?_⟩))
                  | exact LW_fg (hK () _ _ ⟨hqS, by omega, by omega, hXq⟩) (by repeat (first | exact trivial | refine ⟨rfl, ?_⟩))
              exfalso; omega
            · intro u φ X2 hJ0
              obtain ⟨hJ, hXc, hXd, hXq⟩ := hJ0
              refine LW_iload i_67_536 (by rfl) ?_
              refine LW_iconst i_67_538 ?_
              refine LW_icge (tg := 610) i_67_539 (by decide) (by omega) (by omega) (fun h539 => ?_) (fun h539 => ?_)
              · refine LW_aload_n i_67_610 (by rfl) ?_
                refine LW_iconst i_67_611 ?_
                refine LW_v1I (j := 1) i_67_612 v_67_137 (by omega) (by decide +kernel) rfl rfl (Nat.le_of_ble_eq_true rfl) (by assumption) rfl rfl (hrun5 φ hJ) (fun x612 φ612 hQ612 => ?_)
                rw [hQ612.2]
                have h612 : x612 = v5 := hQ612.1
                have hv5 := he5.2
                refine LW_iflt (tg := 633) i_67_615 (by decide) (by omega) (fun h615 => ?_) (fun h615 => ?_)
                · exfalso; omega
                refine LW_aload_n i_67_618 (by rfl) ?_
                refine LW_iconst i_67_619 ?_
                refine LW_v1I (j := 1) i_67_620 v_67_137 (by omega) (by decide +kernel) rfl rfl (Nat.le_of_ble_eq_true rfl) (by assumption) rfl rfl (hrun5 ψe he5.1) (fun x620 φ620 hQ620 => ?_)
                rw [hQ620.2]
                refine LW_iconst i_67_623 ?_
                refine LW_iload_n i_67_624 (by rfl) ?_
                refine LW_imul i_67_625 ?_
                have h620 : x620 = v5 := hQ620.1
                refine LW_icgt (tg := 633) i_67_626 (by decide) (by omega) (by omega) (fun h626 => ?_) (fun h626 => ?_)
                · exfalso; omega
                refine LW_iconst i_67_629 ?_
                refine LW_goto (tg := 634) i_67_630 (by decide) ?_
                refine LW_zret i_67_634 r_67 (by omega) ?_
                exact ⟨rfl, rfl, by omega, hXq⟩
              exfalso; omega
            · exact ⟨hψ, Nat.le_refl _, by omega, hXp⟩
          exfalso; omega
        have h492 : LW xs L0 67 492 [some (.ref 1), some (.int (jI (n : Int))), some (.int (jI (brk ψ 2 n : Int))), some (.int (jI (hsum ψ 2 n))), some (.int (jI x372)), some (.int (jI (opn ψ 2))), none, none, none, none, none] [] ψ X1 (fun x φ X' => x = 1 ∧ φ = ψe ∧ X'.1 ≤ X.1 + 20 ∧ X'.2 131 = pl) := by
          skip
          refine LW_iload i_67_492 (by rfl) ?_
          refine LW_iflt (tg := 511) i_67_494 (by decide) (by omega) (fun h494 => ?_) (fun h494 => ?_)
          · exact LW_fg h511 (by repeat (first | exact trivial | refine ⟨rfl, ?_⟩))
          refine LW_iload i_67_497 (by rfl) ?_
          refine LW_ifne (tg := 511) i_67_499 (by decide) (by omega) (fun h499 => ?_) (fun h499 => ?_)
          · exact LW_fg h511 (by repeat (first | exact trivial | refine ⟨rfl, ?_⟩))
          refine LW_aload_n i_67_502 (by rfl) ?_
          refine LW_bipush i_67_503 (by decide) ?_
          refine LW_v1P (j := 0) i_67_505 v_67_34 (by omega) (by decide +kernel) rfl rfl (Nat.le_of_ble_eq_true rfl) (by assumption) rfl rfl (m_15 n hn hn8 hS hY hG 7 (by decide)) (fun x505 hx505 => ?_)
          have e505 : x505 = ψ 2 89 := hx505
          have g505 := hG 2 89
          refine LW_ifne (tg := 531) i_67_508 (by decide) (by omega) (fun h508 => ?_) (fun h508 => ?_)
          · exfalso; omega
          exact LW_fg h511 (by repeat (first | exact trivial | refine ⟨rfl, ?_⟩))
        refine LW_iload i_67_471 (by rfl) ?_
        refine LW_ifge (tg := 492) i_67_473 (by decide) (by omega) (fun h473 => ?_) (fun h473 => ?_)
        · exact LW_fg h492 (by repeat (first | exact trivial | refine ⟨rfl, ?_⟩))
        refine LW_aload_n i_67_476 (by rfl) ?_
        refine LW_bipush i_67_477 (by decide) ?_
        refine LW_v1P (j := 0) i_67_479 v_67_34 (by omega) (by decide +kernel) rfl rfl (Nat.le_of_ble_eq_true rfl) (by assumption) rfl rfl (m_15 n hn hn8 hS hY hG 7 (by decide)) (fun x479 hx479 => ?_)
        have e479 : x479 = ψ 2 89 := hx479
        have g479 := hG 2 89
        refine LW_aload_n i_67_482 (by rfl) ?_
        refine LW_bipush i_67_483 (by decide) ?_
        refine LW_v1P (j := 0) i_67_485 v_67_34 (by omega) (by decide +kernel) rfl rfl (Nat.le_of_ble_eq_true rfl) (by assumption) rfl rfl (m_15 n hn hn8 hS hY hG 6 (by decide)) (fun x485 hx485 => ?_)
        have e485 : x485 = ψ 2 88 := hx485
        have g485 := hG 2 88
        refine LW_iadd i_67_488 ?_
        refine LW_ifne (tg := 531) i_67_489 (by decide) (by omega) (fun h489 => ?_) (fun h489 => ?_)
        · exfalso; omega
        exact LW_fg h492 (by repeat (first | exact trivial | refine ⟨rfl, ?_⟩))
      refine LW_iconst i_67_377 ?_
      refine LW_istore i_67_378 (by rw [l_67]; decide) (by rfl) ?_
      refine LW_iconst i_67_380 ?_
      refine LW_istore i_67_381 (by rw [l_67]; decide) (by rfl) ?_
      by_cases hneg : ψ 2 87 = -1
      · refine LW_iload i_67_383 (by rfl) ?_
        refine LW_iflt (tg := 450) i_67_385 (by decide) (by omega) (fun h385 => ?_) (fun h385 => ?_)
        · have eo0 : opn ψ 2 = 0 := by unfold opn; rw [if_pos hneg]
          have h9 := h450 X (Nat.le_refl _) (by omega) hpl
          rw [eo0] at h9
          exact LW_fg h9 (by repeat (first | exact trivial | refine ⟨rfl, ?_⟩))
        · exfalso; omega
      obtain ⟨c, hcc⟩ := Int.eq_ofNat_of_zero_le (show 0 ≤ ψ 2 87 by have := hY.2.1; omega)
      have hc4 : c < 4 := by have := hY.2.1; omega
      obtain ⟨mc, hmc⟩ := Int.eq_ofNat_of_zero_le (hS.2.2.2.2.1 c (by omega)).1.1
      have hm6 := (hS.2.2.2.2.1 c (by omega)).1.2
      have hsM : ∀ m, m < mc → jsM ψ (2 + 13 + 8 * c + m) (ψ 2 81) := fun m hm => hS.2.2.2.2.2.1 c m (by omega) (by omega)
      have eoc : opn ψ 2 = opc ψ (2 + 13 + 8 * c) mc := opn_at hcc hmc
      have hxc : x372 = (c : Int) := by omega
      subst hxc
      refine LW_fg (L' := [some (.ref 1), some (.int (jI (n : Int))), some (.int (jI (brk ψ 2 n : Int))), some (.int (jI (hsum ψ 2 n))), some (.int (jI (c : Int))), some (.int (jI 0)), some (.int (jI ((0 : Nat) : Int))), none, none, none, none]) ?_ (by repeat (first | exact trivial | refine ⟨rfl, ?_⟩))
      refine LW_for (σ := Int) (N := mc) (I := (fun i s ψ1 X1 => ψ1 = ψ ∧ X.1 ≤ X1.1 ∧ X1.1 ≤ X.1 + i ∧ X1.2 131 = pl ∧ s = opc ψ (2 + 13 + 8 * c) i)) (Lf := fun i s => [some (.ref 1), some (.int (jI (n : Int))), some (.int (jI (brk ψ 2 n : Int))), some (.int (jI (hsum ψ 2 n))), some (.int (jI (c : Int))), some (.int (jI s)), some (.int (jI (i : Int))), none, none, none, none]) ?_ ?_ mc 0 0 ψ X (by omega) ?_
      · intro i s ψ1 X1 hi hJ hK
        obtain ⟨e1, hXa, hXi, hXp, hsq⟩ := hJ
        rw [e1]
        have hX1 : 132 ≤ X1.1 := by omega
        have hon := opc_nn ψ (2 + 13 + 8 * c) i
        have hst := hY.2.2.2.2.2.2.2.1 c hcc i (by omega)
        have hlt := (hY.2.2.2.2.2.2.1 c i (by omega) (by omega)).2
        have hos : opc ψ (2 + 13 + 8 * c) (i + 1) = opc ψ (2 + 13 + 8 * c) i + (if ψ (2 + 13 + 8 * c + i) 44 = 0 then 1 else 0) := rfl
        refine LW_iload i_67_383 (by rfl) ?_
        refine LW_iflt (tg := 450) i_67_385 (by decide) (by omega) (fun h385 => ?_) (fun h385 => ?_)
        · exfalso; omega
        refine LW_iload i_67_388 (by rfl) ?_
        refine LW_aload_n i_67_390 (by rfl) ?_
        refine LW_iload i_67_391 (by rfl) ?_
        refine LW_l2I (j := 2) i_67_393 v_67_57 (by omega) (by decide +kernel) rfl rfl (Nat.le_of_ble_eq_true rfl) (by first | rfl | (simp only [List.all_cons, List.all_nil, g_ok, Bool.and_true, Bool.true_and, Bool.and_eq_true, decide_eq_true_eq] <;> first | assumption | exact ⟨by assumption, by assumption⟩ | exact ⟨by assumption, by assumption, by assumption⟩ | omega)) rfl (m_28 c mc (by omega) (by omega) hmc (by omega) (fun m hm => (hsM m hm).1) hG hX1) (fun x393 φ393 X2 hle393 hQ393 => ?_)
        obtain ⟨hx393, e393, hXb, hXp2⟩ := hQ393
        rw [e393]
        refine LW_icge (tg := 450) i_67_396 (by decide) (by omega) (by omega) (fun h396 => ?_) (fun h396 => ?_)
        · exfalso; omega
        refine LW_aload_n i_67_399 (by rfl) ?_
        refine LW_iload i_67_400 (by rfl) ?_
        refine LW_iload i_67_402 (by rfl) ?_
        refine LW_iconst i_67_404 ?_
        refine LW_v3P (j := 1) i_67_405 v_67_65 (by omega) (by decide +kernel) rfl rfl (Nat.le_of_ble_eq_true rfl) (by assumption) rfl rfl (m_27 (by omega) c i 4 (by omega) (by omega) (by decide) hG (by omega)) (fun x405 hx405 => ?_)
        have e405 : x405 = ψ (2 + 13 + 8 * c + i) 44 := hx405
        have g405 := hG (2 + 13 + 8 * c + i) 44
        refine LW_istore i_67_408 (by rw [l_67]; decide) (by rfl) ?_
        refine LW_iload i_67_410 (by rfl) ?_
        refine LW_iload i_67_412 (by rfl) ?_
        refine LW_ifne (tg := 421) i_67_414 (by decide) (by omega) (fun h414 => ?_) (fun h414 => ?_)
        · refine LW_iconst i_67_421 ?_
          refine LW_iadd i_67_422 ?_
          refine LW_istore i_67_423 (by rw [l_67]; decide) (by rfl) ?_
          refine LW_iload i_67_425 (by rfl) ?_
          refine LW_iflt (tg := 442) i_67_427 (by decide) (by omega) (fun h427 => ?_) (fun h427 => ?_)
          · exfalso; omega
          refine LW_aload_n i_67_430 (by rfl) ?_
          refine LW_iload i_67_431 (by rfl) ?_
          refine LW_iload i_67_433 (by rfl) ?_
          refine LW_iconst i_67_435 ?_
          refine LW_v3P (j := 1) i_67_436 v_67_65 (by omega) (by decide +kernel) rfl rfl (Nat.le_of_ble_eq_true rfl) (by assumption) rfl rfl (m_27 (by omega) c i 5 (by omega) (by omega) (by decide) hG (by omega)) (fun x436 hx436 => ?_)
          have e436 : x436 = ψ (2 + 13 + 8 * c + i) 45 := hx436
          have g436 := hG (2 + 13 + 8 * c + i) 45
          refine LW_ifge (tg := 444) i_67_439 (by decide) (by omega) (fun h439 => ?_) (fun h439 => ?_)
          · refine LW_iinc i_67_444 (by rfl) (by rw [l_67]; decide) (by rfl) ?_
            refine LW_goto (tg := 383) i_67_447 (by decide) ?_
            first
              | exact LW_fg (hK (s + 1) _ _ ⟨rfl, by omega, by omega, by rw [hXp2]; exact hXp, by rw [hos, if_pos (by omega)]; omega⟩) (by repeat (first | exact trivial | refine ⟨rfl, ?_⟩))
              | exact LW_fg (hK (s + 0) _ _ ⟨rfl, by omega, by omega, by rw [hXp2]; exact hXp, by rw [hos, if_neg (by omega)]; omega⟩) (by repeat (first | exact trivial | refine ⟨rfl, ?_⟩))
          exfalso; omega
        refine LW_iconst i_67_417 ?_
        refine LW_goto (tg := 422) i_67_418 (by decide) ?_
        refine LW_iadd i_67_422 ?_
        refine LW_istore i_67_423 (by rw [l_67]; decide) (by rfl) ?_
        refine LW_iload i_67_425 (by rfl) ?_
        refine LW_iflt (tg := 442) i_67_427 (by decide) (by omega) (fun h427 => ?_) (fun h427 => ?_)
        · exfalso; omega
        refine LW_aload_n i_67_430 (by rfl) ?_
        refine LW_iload i_67_431 (by rfl) ?_
        refine LW_iload i_67_433 (by rfl) ?_
        refine LW_iconst i_67_435 ?_
        refine LW_v3P (j := 1) i_67_436 v_67_65 (by omega) (by decide +kernel) rfl rfl (Nat.le_of_ble_eq_true rfl) (by assumption) rfl rfl (m_27 (by omega) c i 5 (by omega) (by omega) (by decide) hG (by omega)) (fun x436 hx436 => ?_)
        have e436 : x436 = ψ (2 + 13 + 8 * c + i) 45 := hx436
        have g436 := hG (2 + 13 + 8 * c + i) 45
        refine LW_ifge (tg := 444) i_67_439 (by decide) (by omega) (fun h439 => ?_) (fun h439 => ?_)
        · refine LW_iinc i_67_444 (by rfl) (by rw [l_67]; decide) (by rfl) ?_
          refine LW_goto (tg := 383) i_67_447 (by decide) ?_
          first
            | exact LW_fg (hK (s + 1) _ _ ⟨rfl, by omega, by omega, by rw [hXp2]; exact hXp, by rw [hos, if_pos (by omega)]; omega⟩) (by repeat (first | exact trivial | refine ⟨rfl, ?_⟩))
            | exact LW_fg (hK (s + 0) _ _ ⟨rfl, by omega, by omega, by rw [hXp2]; exact hXp, by rw [hos, if_neg (by omega)]; omega⟩) (by repeat (first | exact trivial | refine ⟨rfl, ?_⟩))
        exfalso; omega
      · intro s ψ1 X1 hJ
        obtain ⟨e1, hXa, hXi, hXp, hsq⟩ := hJ
        rw [e1]
        have hX1 : 132 ≤ X1.1 := by omega
        rw [← eoc] at hsq
        subst hsq
        refine LW_iload i_67_383 (by rfl) ?_
        refine LW_iflt (tg := 450) i_67_385 (by decide) (by omega) (fun h385 => ?_) (fun h385 => ?_)
        · first
            | exact LW_fg (h450 X1 hXa (by omega) hXp) (by repeat (first | exact trivial | refine ⟨rfl, ?_⟩))
            | exact LW_fg (h450 X2 (by omega) (by omega) (by rw [hXp2]; exact hXp)) (by repeat (first | exact trivial | refine ⟨rfl, ?_⟩))
        refine LW_iload i_67_388 (by rfl) ?_
        refine LW_aload_n i_67_390 (by rfl) ?_
        refine LW_iload i_67_391 (by rfl) ?_
        refine LW_l2I (j := 2) i_67_393 v_67_57 (by omega) (by decide +kernel) rfl rfl (Nat.le_of_ble_eq_true rfl) (by first | rfl | (simp only [List.all_cons, List.all_nil, g_ok, Bool.and_true, Bool.true_and, Bool.and_eq_true, decide_eq_true_eq] <;> first | assumption | exact ⟨by assumption, by assumption⟩ | exact ⟨by assumption, by assumption, by assumption⟩ | omega)) rfl (m_28 c mc (by omega) (by omega) hmc (by omega) (fun m hm => (hsM m hm).1) hG hX1) (fun x393 φ393 X2 hle393 hQ393 => ?_)
        obtain ⟨hx393, e393, hXb, hXp2⟩ := hQ393
        rw [e393]
        refine LW_icge (tg := 450) i_67_396 (by decide) (by omega) (by omega) (fun h396 => ?_) (fun h396 => ?_)
        · first
            | exact LW_fg (h450 X1 hXa (by omega) hXp) (by repeat (first | exact trivial | refine ⟨rfl, ?_⟩))
            | exact LW_fg (h450 X2 (by omega) (by omega) (by rw [hXp2]; exact hXp)) (by repeat (first | exact trivial | refine ⟨rfl, ?_⟩))
        exfalso; omega
      · exact ⟨rfl, Nat.le_refl _, by omega, hpl, rfl⟩
    exfalso; omega
end P44
