/-! the digest -/
theorem J_inv68 {lv : gL} {M : gM} {c : Int32} {d : Int64} (hlv : j_ok M.1 lv) (hM : 1 < M.1) (hrc : g_rcv M 1 5 = true) : g_inv 73 (.invokevirtual 315) [.int c, .long d, .ref 1] lv M = some (68, [.ref 1, .long d, .int c], []) := by
  have hk : j_ivc 73 68 2 1 1 = true := by decide +kernel
  simp only [j_ivc, Bool.and_eq_true, decide_eq_true_eq] at hk
  obtain ⟨k1, k2, k3, k4, k5, k6, k7⟩ := hk
  have hl : 4 ≤ gLo 68 := by rw [l_68]; decide
  unfold g_inv
  rw [show g_ivx (.invokevirtual 315) = some (1, 315) from rfl]
  dsimp only
  rw [v_73_315]
  dsimp only
  rw [if_pos ⟨k1, k2, Nat.le_of_ble_eq_true rfl, k3, k4, k5, hlv, by simp [g_ok, hM]⟩, if_neg (by decide)]
  show (if _ then _ else _) = _
  rw [if_pos ⟨hl, Nat.le_of_ble_eq_true rfl, Or.inl ⟨rfl, Or.inl rfl, hrc⟩⟩]
  rfl
theorem jQ_68 {d : Int64} {c : Int32} : jQ 131 ([some (.ref 1), some (.long d), none, some (.int c)] ++ List.replicate 5 none) (lv_args 0 [.ref 1, .long d, .int c]) :=
  ⟨rfl, fun i v h => match i, h with
    | 0, h => by cases h; rfl
    | 1, h => by cases h; rfl
    | 2, h => by cases h
    | 3, h => by cases h; rfl
    | 4, h => by cases h
    | 5, h => by cases h
    | 6, h => by cases h
    | 7, h => by cases h
    | 8, h => by cases h
    | _ + 9, h => by cases h⟩
theorem JZ_c68 {Z : gM → gM → Prop} {xs : Nat → Int32} {L0 : Nat} {L : List (Option Value)} {ψ : jSt} {P : jO → jSt → Prop} {d : Int64} {c : Int32} (hz : JZ Eq xs L0 68 0 ([some (.ref 1), some (.long d), none, some (.int c)] ++ List.replicate 5 none) [] ψ (oL fun x φ => True ∧ φ = ψ)) (h : ∀ x, JZ Z xs L0 73 146 L [.long x] ψ P) : JZ Z xs L0 73 143 L [.int c, .long d, .ref 1] ψ P := by
  obtain ⟨o, ψ', ⟨x, rfl, -, e⟩, hr1⟩ := hz
  rw [e] at hr1
  obtain ⟨w, ψ2, hP, hr2⟩ := h x
  refine ⟨w, ψ2, hP, fun X hX hY => ?_⟩
  obtain ⟨X1, e1, hr1⟩ := hr1 X hX ⟨X, rfl⟩
  subst e1
  obtain ⟨X2, e2, hr2⟩ := hr2 X hX hY
  refine ⟨X2, e2, fun lv cc dd hl => ?_⟩
  have hinv := J_inv68 (d := d) (c := c) (lv := lv) (M := jM ψ X) (j_ok_mono hX hl.1) (by show 1 < X.1; omega) (by
    unfold g_rcv
    rw [jM_rd hX jTow1]
    show decide (5 = 5) = true
    exact decide_eq_true rfl)
  exact g_R_cal (j_thr i_73_143 rfl) i_73_143 rfl hinv (hr1 _ 0 0 jQ_68) (hr2 lv cc dd hl)
section P42
variable {xs : Nat → Int32} {L0 : Nat}
theorem m_68 {ψ : jSt} {d : Int64} {c mc : Nat} (h83 : ψ 2 83 ≤ 6) (hc : (c : Int) < ψ 2 83) (hmc : ψ (2 + 11 + 8 * c) 21 = (mc : Int)) (h21 : ψ (2 + 11 + 8 * c) 21 ≤ 6) (hG : jG ψ) : JZ Eq xs L0 68 0 ([some (.ref 1), some (.long d), none, some (.int (jI (c : Int)))] ++ List.replicate 5 none) [] ψ (oL fun x φ => True ∧ φ = ψ) := by
  have hT := jTow1
  have hrB := jR_rig (r := 2) (by decide)
  have hrA := jR_rig (r := 61) (by decide)
  have hcue := (jR_cue (r := 2) (by decide) (show c < 6 by omega)).1
  have hcl := jSk_lt hcue
  refine JZ_lload_n i_68_0 (by rfl) ?_
  refine JZ_lstore i_68_1 (by rw [l_68]; decide) (by rfl) ?_
  refine JZ_aload_n i_68_3 (by rfl) ?_
  refine JZ_gR i_68_4 f_68_10 jTow1 (by rfl) ?_
  refine JZ_iload_n i_68_7 (by rfl) ?_
  refine JZ_v1A (j := 0) i_68_8 v_68_98 (by decide +kernel) rfl rfl (Nat.le_of_ble_eq_true rfl) (by assumption) rfl rfl (m_11 (r := 2) (by decide) c rfl hc h83 hG) ?_
  refine JZ_gB (key := 21) i_68_11 f_68_117 (by assumption) (by rfl) rfl hG (fun u11 v11 => ?_)
  refine JZ_istore i_68_14 (by rw [l_68]; decide) (by rfl) ?_
  refine JZ_iconst i_68_16 ?_
  refine JZ_istore i_68_17 (by rw [l_68]; decide) (by rfl) ?_
  refine JZ_fg (L' := [some (.ref 1), some (.long d), none, some (.int (jI (c : Int))), some (.long d), none, some (.int (jI (ψ (2 + 11 + 8 * c) 21))), some (.int (jI (((0 : Nat) : Int)))), none]) ?_ (by repeat (first | exact trivial | refine ⟨rfl, ?_⟩))
  refine JZ_forP (σ := Int64) (N := mc) (I := fun i s => True) (Lf := fun i s => [some (.ref 1), some (.long d), none, some (.int (jI (c : Int))), some (.long s), none, some (.int (jI (ψ (2 + 11 + 8 * c) 21))), some (.int (jI ((i : Int)))), none]) ?_ ?_ mc 0 d (by omega) ?_
  · intro i s hi hI hK
    refine JZ_iload i_68_19 (by rfl) ?_
    refine JZ_iload i_68_21 (by rfl) ?_
    refine JZ_icge (tg := 67) i_68_23 (by decide) (by omega) (by omega) (fun h23 => ?_) (fun h23 => ?_)
    · exfalso; omega
    refine JZ_iconst i_68_26 ?_
    refine JZ_istore i_68_27 (by rw [l_68]; decide) (by rfl) ?_
    refine JZ_fg (L' := [some (.ref 1), some (.long d), none, some (.int (jI (c : Int))), some (.long s), none, some (.int (jI (ψ (2 + 11 + 8 * c) 21))), some (.int (jI ((i : Int)))), some (.int (jI ((0 : Nat) : Int)))]) ?_ (by repeat (first | exact trivial | refine ⟨rfl, ?_⟩))
    refine JZ_forP (σ := Int64) (N := 6) (I := fun k s => True) (Lf := fun k s => [some (.ref 1), some (.long d), none, some (.int (jI (c : Int))), some (.long s), none, some (.int (jI (ψ (2 + 11 + 8 * c) 21))), some (.int (jI ((i : Int)))), some (.int (jI (k : Int)))]) ?_ ?_ 6 0 s (by omega) ?_
    · intro k s hk hI2 hK2
      refine JZ_iload i_68_29 (by rfl) ?_
      refine JZ_bipush i_68_31 (by decide) ?_
      refine JZ_icge (tg := 61) i_68_33 (by decide) (by omega) (by omega) (fun h33 => ?_) (fun h33 => ?_)
      · exfalso; omega
      refine JZ_lload i_68_36 (by rfl) ?_
      refine JZ_ldc2l i_68_38 c_68_304 ?_
      refine JZ_lmul i_68_41 ?_
      refine JZ_aload_n i_68_42 (by rfl) ?_
      refine JZ_iload_n i_68_43 (by rfl) ?_
      refine JZ_iload i_68_44 (by rfl) ?_
      refine JZ_iload i_68_46 (by rfl) ?_
      refine JZ_v3P (j := 1) i_68_48 v_68_325 (by decide +kernel) rfl rfl (Nat.le_of_ble_eq_true rfl) (by assumption) rfl rfl (m_27 h83 c i k hc h21 (by omega) hG (by omega)) (fun x48 hx48 => ?_)
      refine JZ_i2l i_68_51 ?_
      refine JZ_ladd i_68_52 ?_
      refine JZ_lstore i_68_53 (by rw [l_68]; decide) (by rfl) ?_
      refine JZ_iinc i_68_55 (by rfl) (by rw [l_68]; decide) (by rfl) ?_
      refine JZ_goto (tg := 29) i_68_58 (by decide) ?_
      exact JZ_fg (hK2 _ trivial) (by repeat (first | exact trivial | refine ⟨rfl, ?_⟩))
    · intro s hI2
      refine JZ_iload i_68_29 (by rfl) ?_
      refine JZ_bipush i_68_31 (by decide) ?_
      refine JZ_icge (tg := 61) i_68_33 (by decide) (by omega) (by omega) (fun h33 => ?_) (fun h33 => ?_)
      · refine JZ_iinc i_68_61 (by rfl) (by rw [l_68]; decide) (by rfl) ?_
        refine JZ_goto (tg := 19) i_68_64 (by decide) ?_
        exact JZ_fg (hK _ trivial) (by repeat (first | exact trivial | refine ⟨rfl, ?_⟩))
      exfalso; omega
    · trivial
  · intro s hI
    refine JZ_iload i_68_19 (by rfl) ?_
    refine JZ_iload i_68_21 (by rfl) ?_
    refine JZ_icge (tg := 67) i_68_23 (by decide) (by omega) (by omega) (fun h23 => ?_) (fun h23 => ?_)
    · refine JZ_lload i_68_67 (by rfl) ?_
      refine JZ_lret i_68_69 r_68 ?_
      exact ⟨trivial, rfl⟩
    exfalso; omega
  · trivial
theorem m_73 {ψ : jSt} {n : Nat} (hI : INV ψ n) (h86 : ψ 2 86 ≤ 3000) : JZ ZP xs L0 73 0 ([some (.ref 1)] ++ List.replicate 4 none) [] ψ (oL fun x φ => jSq ψ φ) := by
  have hT := jTow1
  have hrB := jR_rig (r := 2) (by decide)
  have hrA := jR_rig (r := 61) (by decide)
  obtain ⟨hG, hS, hY, hR, hN, hL, hn, i83, i103, hP⟩ := id hI
  have hn8 : n ≤ 8 := by have := hS.1; omega
  refine JZ_ldc2l i_73_0 c_73_302 ?_
  refine JZ_lstore_n i_73_3 (by rw [l_73]; decide) (by rfl) ?_
  refine JZ_iconst i_73_4 ?_
  refine JZ_istore_n i_73_5 (by rw [l_73]; decide) (by rfl) ?_
  refine JZ_fg (L' := [some (.ref 1), some (.long 9111), none, some (.int (jI (((0 : Nat) : Int)))), none]) ?_ (by repeat (first | exact trivial | refine ⟨rfl, ?_⟩))
  refine JZ_forP (σ := Int64) (N := 16) (I := fun i s => True) (Lf := fun i s => [some (.ref 1), some (.long s), none, some (.int (jI ((i : Int)))), none]) ?_ ?_ 16 0 9111 (by omega) ?_
  · intro i s hi hI hK
    refine JZ_iload_n i_73_6 (by rfl) ?_
    refine JZ_bipush i_73_7 (by decide) ?_
    refine JZ_icge (tg := 31) i_73_9 (by decide) (by omega) (by omega) (fun h9 => ?_) (fun h9 => ?_)
    · exfalso; omega
    refine JZ_lload_n i_73_12 (by rfl) ?_
    refine JZ_ldc2l i_73_13 c_73_304 ?_
    refine JZ_lmul i_73_16 ?_
    refine JZ_aload_n i_73_17 (by rfl) ?_
    refine JZ_iload_n i_73_18 (by rfl) ?_
    refine JZ_v1P (j := 0) i_73_19 v_73_306 (by decide +kernel) rfl rfl (Nat.le_of_ble_eq_true rfl) (by assumption) rfl rfl (m_15 n hn hn8 hS hY hG i (by omega)) (fun x19 hx19 => ?_)
    refine JZ_i2l i_73_22 ?_
    refine JZ_ladd i_73_23 ?_
    refine JZ_lstore_n i_73_24 (by rw [l_73]; decide) (by rfl) ?_
    refine JZ_iinc i_73_25 (by rfl) (by rw [l_73]; decide) (by rfl) ?_
    refine JZ_goto (tg := 6) i_73_28 (by decide) ?_
    exact JZ_fg (hK _ trivial) (by repeat (first | exact trivial | refine ⟨rfl, ?_⟩))
  · intro s hI
    refine JZ_iload_n i_73_6 (by rfl) ?_
    refine JZ_bipush i_73_7 (by decide) ?_
    refine JZ_icge (tg := 31) i_73_9 (by decide) (by omega) (by omega) (fun h9 => ?_) (fun h9 => ?_)
    · refine JZ_iconst i_73_31 ?_
      refine JZ_istore_n i_73_32 (by rw [l_73]; decide) (by rfl) ?_
      refine JZ_fg (L' := [some (.ref 1), some (.long s), none, some (.int (jI (((0 : Nat) : Int)))), none]) ?_ (by repeat (first | exact trivial | refine ⟨rfl, ?_⟩))
      refine JZ_forP (σ := Int64) (N := n) (I := fun i s => True) (Lf := fun i s => [some (.ref 1), some (.long s), none, some (.int (jI ((i : Int)))), none]) ?_ ?_ n 0 s (by omega) ?_
      · intro i s hi hI hK
        refine JZ_iload_n i_73_33 (by rfl) ?_
        refine JZ_aload_n i_73_34 (by rfl) ?_
        refine JZ_gR i_73_35 f_73_10 jTow1 (by rfl) ?_
        refine JZ_gB (key := 81) i_73_38 f_73_37 (by assumption) (by rfl) rfl hG (fun u38 v38 => ?_)
        refine JZ_icge (tg := 81) i_73_41 (by decide) (by omega) (by omega) (fun h41 => ?_) (fun h41 => ?_)
        · exfalso; omega
        refine JZ_iconst i_73_44 ?_
        refine JZ_istore i_73_45 (by rw [l_73]; decide) (by rfl) ?_
        refine JZ_fg (L' := [some (.ref 1), some (.long s), none, some (.int (jI ((i : Int)))), some (.int (jI ((0 : Nat) : Int)))]) ?_ (by repeat (first | exact trivial | refine ⟨rfl, ?_⟩))
        refine JZ_forP (σ := Int64) (N := 12) (I := fun k s => True) (Lf := fun k s => [some (.ref 1), some (.long s), none, some (.int (jI ((i : Int)))), some (.int (jI (k : Int)))]) ?_ ?_ 12 0 s (by omega) ?_
        · intro k s hk hI2 hK2
          refine JZ_iload i_73_47 (by rfl) ?_
          refine JZ_bipush i_73_49 (by decide) ?_
          refine JZ_icge (tg := 75) i_73_51 (by decide) (by omega) (by omega) (fun h51 => ?_) (fun h51 => ?_)
          · exfalso; omega
          refine JZ_lload_n i_73_54 (by rfl) ?_
          refine JZ_ldc2l i_73_55 c_73_304 ?_
          refine JZ_lmul i_73_58 ?_
          refine JZ_aload_n i_73_59 (by rfl) ?_
          refine JZ_iload_n i_73_60 (by rfl) ?_
          refine JZ_iload i_73_61 (by rfl) ?_
          refine JZ_v2P (j := 1) i_73_63 v_73_309 (by decide +kernel) rfl rfl (Nat.le_of_ble_eq_true rfl) (by assumption) rfl rfl (m_18 n hn hn8 hS hG i k (by omega) (by omega)) (fun x63 hx63 => ?_)
          refine JZ_i2l i_73_66 ?_
          refine JZ_ladd i_73_67 ?_
          refine JZ_lstore_n i_73_68 (by rw [l_73]; decide) (by rfl) ?_
          refine JZ_iinc i_73_69 (by rfl) (by rw [l_73]; decide) (by rfl) ?_
          refine JZ_goto (tg := 47) i_73_72 (by decide) ?_
          exact JZ_fg (hK2 _ trivial) (by repeat (first | exact trivial | refine ⟨rfl, ?_⟩))
        · intro s hI2
          refine JZ_iload i_73_47 (by rfl) ?_
          refine JZ_bipush i_73_49 (by decide) ?_
          refine JZ_icge (tg := 75) i_73_51 (by decide) (by omega) (by omega) (fun h51 => ?_) (fun h51 => ?_)
          · refine JZ_iinc i_73_75 (by rfl) (by rw [l_73]; decide) (by rfl) ?_
            refine JZ_goto (tg := 33) i_73_78 (by decide) ?_
            exact JZ_fg (hK _ trivial) (by repeat (first | exact trivial | refine ⟨rfl, ?_⟩))
          exfalso; omega
        · trivial
      · intro s hI
        refine JZ_iload_n i_73_33 (by rfl) ?_
        refine JZ_aload_n i_73_34 (by rfl) ?_
        refine JZ_gR i_73_35 f_73_10 jTow1 (by rfl) ?_
        refine JZ_gB (key := 81) i_73_38 f_73_37 (by assumption) (by rfl) rfl hG (fun u38 v38 => ?_)
        refine JZ_icge (tg := 81) i_73_41 (by decide) (by omega) (by omega) (fun h41 => ?_) (fun h41 => ?_)
        · refine JZ_iconst i_73_81 ?_
          refine JZ_istore_n i_73_82 (by rw [l_73]; decide) (by rfl) ?_
          refine JZ_fg (L' := [some (.ref 1), some (.long s), none, some (.int (jI (((0 : Nat) : Int)))), none]) ?_ (by repeat (first | exact trivial | refine ⟨rfl, ?_⟩))
          refine JZ_forP (σ := Int64) (N := 8) (I := fun i s => True) (Lf := fun i s => [some (.ref 1), some (.long s), none, some (.int (jI ((i : Int)))), none]) ?_ ?_ 8 0 s (by omega) ?_
          · intro i s hi hI hK
            refine JZ_iload_n i_73_83 (by rfl) ?_
            refine JZ_aload_n i_73_84 (by rfl) ?_
            refine JZ_gB (key := 103) i_73_85 f_73_68 (by assumption) (by rfl) rfl hG (fun u85 v85 => ?_)
            refine JZ_icge (tg := 127) i_73_88 (by decide) (by omega) (by omega) (fun h88 => ?_) (fun h88 => ?_)
            · exfalso; omega
            refine JZ_iconst i_73_91 ?_
            refine JZ_istore i_73_92 (by rw [l_73]; decide) (by rfl) ?_
            refine JZ_fg (L' := [some (.ref 1), some (.long s), none, some (.int (jI ((i : Int)))), some (.int (jI ((0 : Nat) : Int)))]) ?_ (by repeat (first | exact trivial | refine ⟨rfl, ?_⟩))
            refine JZ_forP (σ := Int64) (N := 4) (I := fun k s => True) (Lf := fun k s => [some (.ref 1), some (.long s), none, some (.int (jI ((i : Int)))), some (.int (jI (k : Int)))]) ?_ ?_ 4 0 s (by omega) ?_
            · intro k s hk hI2 hK2
              refine JZ_iload i_73_94 (by rfl) ?_
              refine JZ_iconst i_73_96 ?_
              refine JZ_icge (tg := 121) i_73_97 (by decide) (by omega) (by omega) (fun h97 => ?_) (fun h97 => ?_)
              · exfalso; omega
              refine JZ_lload_n i_73_100 (by rfl) ?_
              refine JZ_ldc2l i_73_101 c_73_304 ?_
              refine JZ_lmul i_73_104 ?_
              refine JZ_aload_n i_73_105 (by rfl) ?_
              refine JZ_iload_n i_73_106 (by rfl) ?_
              refine JZ_iload i_73_107 (by rfl) ?_
              refine JZ_v2P (j := 1) i_73_109 v_73_312 (by decide +kernel) rfl rfl (Nat.le_of_ble_eq_true rfl) (by assumption) rfl rfl (m_20 (by omega) hG i k (by omega) (by omega)) (fun x109 hx109 => ?_)
              refine JZ_i2l i_73_112 ?_
              refine JZ_ladd i_73_113 ?_
              refine JZ_lstore_n i_73_114 (by rw [l_73]; decide) (by rfl) ?_
              refine JZ_iinc i_73_115 (by rfl) (by rw [l_73]; decide) (by rfl) ?_
              refine JZ_goto (tg := 94) i_73_118 (by decide) ?_
              exact JZ_fg (hK2 _ trivial) (by repeat (first | exact trivial | refine ⟨rfl, ?_⟩))
            · intro s hI2
              refine JZ_iload i_73_94 (by rfl) ?_
              refine JZ_iconst i_73_96 ?_
              refine JZ_icge (tg := 121) i_73_97 (by decide) (by omega) (by omega) (fun h97 => ?_) (fun h97 => ?_)
              · refine JZ_iinc i_73_121 (by rfl) (by rw [l_73]; decide) (by rfl) ?_
                refine JZ_goto (tg := 83) i_73_124 (by decide) ?_
                exact JZ_fg (hK _ trivial) (by repeat (first | exact trivial | refine ⟨rfl, ?_⟩))
              exfalso; omega
            · trivial
          · intro s hI
            refine JZ_iload_n i_73_83 (by rfl) ?_
            refine JZ_aload_n i_73_84 (by rfl) ?_
            refine JZ_gB (key := 103) i_73_85 f_73_68 (by assumption) (by rfl) rfl hG (fun u85 v85 => ?_)
            refine JZ_icge (tg := 127) i_73_88 (by decide) (by omega) (by omega) (fun h88 => ?_) (fun h88 => ?_)
            · refine JZ_iconst i_73_127 ?_
              refine JZ_istore_n i_73_128 (by rw [l_73]; decide) (by rfl) ?_
              refine JZ_fg (L' := [some (.ref 1), some (.long s), none, some (.int (jI (((0 : Nat) : Int)))), none]) ?_ (by repeat (first | exact trivial | refine ⟨rfl, ?_⟩))
              refine JZ_for (σ := Int64) (N := 4) (I := fun i s φ => jSq ψ φ) (Lf := fun i s => [some (.ref 1), some (.long s), none, some (.int (jI ((i : Int)))), none]) ?_ ?_ 4 0 s ψ (by omega) ?_
              · intro i s φ hi hJ hK
                have e : ∀ a k, a < 61 → φ a k = ψ a k := fun a k h => hJ.2 a k (live_lo h)
                have e83 := e 2 83 (by decide)
                have hG9 := hG
                have hGf := hJ.1
                refine JZ_iload_n i_73_129 (by rfl) ?_
                refine JZ_aload_n i_73_130 (by rfl) ?_
                refine JZ_gR i_73_131 f_73_10 jTow1 (by rfl) ?_
                refine JZ_gB (key := 83) i_73_134 f_73_84 (by assumption) (by rfl) rfl hGf (fun u134 v134 => ?_)
                refine JZ_icge (tg := 181) i_73_137 (by decide) (by omega) (by omega) (fun h137 => ?_) (fun h137 => ?_)
                · exfalso; omega
                obtain ⟨mc, hmc⟩ := Int.eq_ofNat_of_zero_le (hS.2.2.2.2.1 i (by omega)).1.1
                have hm6 := (hS.2.2.2.2.1 i (by omega)).1.2
                obtain ⟨v, ψx, hq, hrun⟩ := m_63 (xs := xs) (L0 := L0) (c := i) (mc := mc) n 4 hn hn8 i83 (by decide) hS hY hR h86 hG (by omega) hmc (by omega)
                have hGφ := hJ.1
                refine JZ_aload_n i_73_140 (by rfl) ?_
                refine JZ_lload_n i_73_141 (by rfl) ?_
                refine JZ_iload_n i_73_142 (by rfl) ?_
                refine JZ_c68 (m_68 (mc := mc) (by rw [e 2 83 (by decide)]; omega) (by rw [e 2 83 (by decide)]; omega) (by rw [e _ 21 (by omega)]; exact hmc) (by rw [e _ 21 (by omega)]; omega) hGφ) (fun x143 => ?_)
                refine JZ_lstore_n i_73_146 (by rw [l_73]; decide) (by rfl) ?_
                refine JZ_lload_n i_73_147 (by rfl) ?_
                refine JZ_ldc2l i_73_148 c_73_304 ?_
                refine JZ_lmul i_73_151 ?_
                refine JZ_aload_n i_73_152 (by rfl) ?_
                refine JZ_iload_n i_73_153 (by rfl) ?_
                refine JZ_v1I (j := 1) i_73_154 v_73_279 (by decide +kernel) rfl rfl (Nat.le_of_ble_eq_true rfl) (by assumption) rfl rfl (hrun φ hJ) (fun x154 φ2 hQ154 => ?_)
                obtain ⟨hx154, e154⟩ := hQ154
                rw [e154]
                have hG := hq.1.1
                have hcl2 := hq.1.2
                refine JZ_i2l i_73_157 ?_
                refine JZ_ladd i_73_158 ?_
                refine JZ_lstore_n i_73_159 (by rw [l_73]; decide) (by rfl) ?_
                refine JZ_lload_n i_73_160 (by rfl) ?_
                refine JZ_ldc2l i_73_161 c_73_304 ?_
                refine JZ_lmul i_73_164 ?_
                refine JZ_aload_n i_73_165 (by rfl) ?_
                refine JZ_gR i_73_166 f_73_16 jTow1 (by rfl) ?_
                refine JZ_gB (key := 97) i_73_169 f_73_283 (by assumption) (by rfl) rfl hG (fun u169 v169 => ?_)
                refine JZ_i2l i_73_172 ?_
                refine JZ_ladd i_73_173 ?_
                refine JZ_lstore_n i_73_174 (by rw [l_73]; decide) (by rfl) ?_
                refine JZ_iinc i_73_175 (by rfl) (by rw [l_73]; decide) (by rfl) ?_
                refine JZ_goto (tg := 129) i_73_178 (by decide) ?_
                exact JZ_fg (hK _ _ hq.1) (by repeat (first | exact trivial | refine ⟨rfl, ?_⟩))
              · intro s φ hJ
                have e : ∀ a k, a < 61 → φ a k = ψ a k := fun a k h => hJ.2 a k (live_lo h)
                have e83 := e 2 83 (by decide)
                have hGf := hJ.1
                refine JZ_iload_n i_73_129 (by rfl) ?_
                refine JZ_aload_n i_73_130 (by rfl) ?_
                refine JZ_gR i_73_131 f_73_10 jTow1 (by rfl) ?_
                refine JZ_gB (key := 83) i_73_134 f_73_84 (by assumption) (by rfl) rfl hGf (fun u134 v134 => ?_)
                refine JZ_icge (tg := 181) i_73_137 (by decide) (by omega) (by omega) (fun h137 => ?_) (fun h137 => ?_)
                · obtain ⟨v9, ψx, hq66, hrun9⟩ := m_66 (xs := xs) (L0 := L0) 9 (by decide) n 4 hn hn8 i83 (by decide) hS hY hR h86 hG
                  refine JZ_lload_n i_73_181 (by rfl) ?_
                  refine JZ_ldc2l i_73_182 c_73_304 ?_
                  refine JZ_lmul i_73_185 ?_
                  refine JZ_aload_n i_73_186 (by rfl) ?_
                  refine JZ_bipush i_73_187 (by decide) ?_
                  refine JZ_v1I (j := 1) i_73_189 v_73_319 (by decide +kernel) rfl rfl (Nat.le_of_ble_eq_true rfl) (by assumption) rfl rfl (hrun9 φ hJ) (fun x189 φ2 hQ189 => ?_)
                  rw [hQ189.2]
                  have hq9 := hq66.1
                  have hG := hq9.1
                  have h103 : ψx 1 103 = 8 := by rw [hq9.2 1 103 (live_lo (by decide))]; exact i103
                  have hn9 : ψx 2 81 = (n : Int) := by rw [hq9.2 2 81 (live_lo (by decide))]; exact hn
                  refine JZ_i2l i_73_192 ?_
                  refine JZ_ladd i_73_193 ?_
                  refine JZ_lstore_n i_73_194 (by rw [l_73]; decide) (by rfl) ?_
                  refine JZ_lload_n i_73_195 (by rfl) ?_
                  refine JZ_ldc2l i_73_196 c_73_304 ?_
                  refine JZ_lmul i_73_199 ?_
                  refine JZ_aload_n i_73_200 (by rfl) ?_
                  refine JZ_iconst i_73_201 ?_
                  refine JZ_aload_n i_73_202 (by rfl) ?_
                  refine JZ_gB (key := 103) i_73_203 f_73_68 (by assumption) (by rfl) rfl hG (fun u203 v203 => ?_)
                  refine JZ_ishl i_73_206 ?_
                  rw [h103, shl8]
                  refine JZ_iconst i_73_207 ?_
                  refine JZ_isub i_73_208 ?_
                  rw [show (256 : Int) - 1 = 255 from rfl]
                  refine JZ_fits (j := 3) i_73_209 v_73_322 (by decide +kernel) rfl rfl (Nat.le_of_ble_eq_true rfl) (by assumption) rfl rfl (m_72z hn9 hn8 h103 hG) (fun x209 φ9 hQ209 => ?_)
                  rw [hQ209]
                  refine JZ_i2l i_73_212 ?_
                  refine JZ_ladd i_73_213 ?_
                  exact JZ_lret i_73_214 r_73 hq9
                exfalso; omega
              · exact ⟨hG, fun _ _ _ => rfl⟩
            exfalso; omega
          · trivial
        exfalso; omega
      · trivial
    exfalso; omega
  · trivial
end P42
