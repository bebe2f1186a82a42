set_option maxHeartbeats 4000000 in
set_option maxRecDepth 20000 in
theorem s_stp_ok {xs ε : Nat → Int32} {L : Nat} {I : sI} (hI : s_sat ε I) (hL : L ≤ 6) (hxs : ∀ n, n < 6 → ε n = xs n) (h6 : ε 6 = ε 0 &&& 31) {y pc : Nat} {i : Instr} {lv : sL} {st : List sV} {m : sM} (hm : s_wf m) {c d : Nat} {q : sCf} (h : s_stp L I y i pc lv st m c d = some q) :
    g_stp xs L y i pc (s_Lv ε lv) (s_S ε st) (s_M ε m) c d = some (q.1, s_Lv ε q.2.1, s_S ε q.2.2.1, s_M ε q.2.2.2.1, q.2.2.2.2.1, q.2.2.2.2.2) ∧ m.1 ≤ q.2.2.2.1.1 ∧ c ≤ q.2.2.2.2.1 ∧ d ≤ q.2.2.2.2.2 ∧ s_wf q.2.2.2.1 := by
  cases i with
  | iconst v =>
    simp only [s_stp, s_fx, s_x_iconst, s_lo_eq, s_fld_eq, s_iv_eq, s_F_eq, s_W_eq, s_lk_eq, s_nq_eq, s_ls_eq, s_len_eq, s_nth_eq, s_al_eq, s_nc_eq, s_ixb_eq, s_c1b_eq, s_c2b_eq] at h
    cases h
    exact ⟨rfl, Nat.le_refl _, Nat.le_refl _, Nat.le_refl _, hm⟩
  | lconst v =>
    simp only [s_stp, s_fx, s_x_lconst, s_lo_eq, s_fld_eq, s_iv_eq, s_F_eq, s_W_eq, s_lk_eq, s_nq_eq, s_ls_eq, s_len_eq, s_nth_eq, s_al_eq, s_nc_eq, s_ixb_eq, s_c1b_eq, s_c2b_eq] at h
    cases h
    exact ⟨rfl, Nat.le_refl _, Nat.le_refl _, Nat.le_refl _, hm⟩
  | bipush v =>
    simp only [s_stp, s_fx, s_x_bipush, s_lo_eq, s_fld_eq, s_iv_eq, s_F_eq, s_W_eq, s_lk_eq, s_nq_eq, s_ls_eq, s_len_eq, s_nth_eq, s_al_eq, s_nc_eq, s_ixb_eq, s_c1b_eq, s_c2b_eq] at h
    cases h
    exact ⟨rfl, Nat.le_refl _, Nat.le_refl _, Nat.le_refl _, hm⟩
  | sipush v =>
    simp only [s_stp, s_fx, s_x_sipush, s_lo_eq, s_fld_eq, s_iv_eq, s_F_eq, s_W_eq, s_lk_eq, s_nq_eq, s_ls_eq, s_len_eq, s_nth_eq, s_al_eq, s_nc_eq, s_ixb_eq, s_c1b_eq, s_c2b_eq] at h
    cases h
    exact ⟨rfl, Nat.le_refl _, Nat.le_refl _, Nat.le_refl _, hm⟩
  | aconst_null =>
    simp only [s_stp, s_fx, s_x_aconst_null, s_lo_eq, s_fld_eq, s_iv_eq, s_F_eq, s_W_eq, s_lk_eq, s_nq_eq, s_ls_eq, s_len_eq, s_nth_eq, s_al_eq, s_nc_eq, s_ixb_eq, s_c1b_eq, s_c2b_eq] at h
    cases h
    exact ⟨rfl, Nat.le_refl _, Nat.le_refl _, Nat.le_refl _, hm⟩
  | iadd =>
    simp only [s_stp, s_fx, s_x_iadd, s_lo_eq, s_fld_eq, s_iv_eq, s_F_eq, s_W_eq, s_lk_eq, s_nq_eq, s_ls_eq, s_len_eq, s_nth_eq, s_al_eq, s_nc_eq, s_ixb_eq, s_c1b_eq, s_c2b_eq] at h
    split at h
    · cases h
      exact ⟨rfl, Nat.le_refl _, Nat.le_refl _, Nat.le_refl _, hm⟩
    · cases h
      next x2 q t =>
      refine ⟨?_, Nat.le_refl _, Nat.le_refl _, Nat.le_refl _, hm⟩
      show some (pc + 1, s_Lv ε lv, Value.int (ε q.1 + q.2 + x2) :: s_S ε t, s_M ε m, c, d) = some (pc + 1, s_Lv ε lv, Value.int (ε q.1 + (q.2 + x2)) :: s_S ε t, s_M ε m, c, d)
      rw [Int32.add_assoc]
    · cases h
      next q x1 t =>
      refine ⟨?_, Nat.le_refl _, Nat.le_refl _, Nat.le_refl _, hm⟩
      show some (pc + 1, s_Lv ε lv, Value.int (x1 + (ε q.1 + q.2)) :: s_S ε t, s_M ε m, c, d) = some (pc + 1, s_Lv ε lv, Value.int (ε q.1 + (q.2 + x1)) :: s_S ε t, s_M ε m, c, d)
      rw [Int32.add_comm x1, Int32.add_assoc]
    · cases h
  | isub =>
    simp only [s_stp, s_fx, s_x_isub, s_lo_eq, s_fld_eq, s_iv_eq, s_F_eq, s_W_eq, s_lk_eq, s_nq_eq, s_ls_eq, s_len_eq, s_nth_eq, s_al_eq, s_nc_eq, s_ixb_eq, s_c1b_eq, s_c2b_eq] at h
    obtain ⟨x2, x1, t, e0, h9⟩ := s_pII_i h
    subst e0
    cases h9
    exact ⟨rfl, Nat.le_refl _, Nat.le_refl _, Nat.le_refl _, hm⟩
  | imul =>
    simp only [s_stp, s_fx, s_x_imul, s_lo_eq, s_fld_eq, s_iv_eq, s_F_eq, s_W_eq, s_lk_eq, s_nq_eq, s_ls_eq, s_len_eq, s_nth_eq, s_al_eq, s_nc_eq, s_ixb_eq, s_c1b_eq, s_c2b_eq] at h
    obtain ⟨x2, x1, t, e0, h9⟩ := s_pII_i h
    subst e0
    cases h9
    exact ⟨rfl, Nat.le_refl _, Nat.le_refl _, Nat.le_refl _, hm⟩
  | iand =>
    simp only [s_stp, s_fx, s_x_iand, s_lo_eq, s_fld_eq, s_iv_eq, s_F_eq, s_W_eq, s_lk_eq, s_nq_eq, s_ls_eq, s_len_eq, s_nth_eq, s_al_eq, s_nc_eq, s_ixb_eq, s_c1b_eq, s_c2b_eq] at h
    split at h
    · cases h
      exact ⟨rfl, Nat.le_refl _, Nat.le_refl _, Nat.le_refl _, hm⟩
    · split at h
      · next hq =>
        cases h
        obtain ⟨e1, e2⟩ := hq
        subst e1 e2
        next t =>
        refine ⟨?_, Nat.le_refl _, Nat.le_refl _, Nat.le_refl _, hm⟩
        show some (pc + 1, s_Lv ε lv, Value.int ((ε 0 + 0) &&& 31) :: s_S ε t, s_M ε m, c, d) = some (pc + 1, s_Lv ε lv, s_v ε (s_rs I (.inr (6, 0))) :: s_S ε t, s_M ε m, c, d)
        rw [s_rs_ok hI]
        show _ = some (pc + 1, s_Lv ε lv, Value.int (ε 6 + 0) :: s_S ε t, s_M ε m, c, d)
        rw [Int32.add_zero, Int32.add_zero, h6]
      · cases h
    · cases h
  | ior =>
    simp only [s_stp, s_fx, s_x_ior, s_lo_eq, s_fld_eq, s_iv_eq, s_F_eq, s_W_eq, s_lk_eq, s_nq_eq, s_ls_eq, s_len_eq, s_nth_eq, s_al_eq, s_nc_eq, s_ixb_eq, s_c1b_eq, s_c2b_eq] at h
    obtain ⟨x2, x1, t, e0, h9⟩ := s_pII_i h
    subst e0
    cases h9
    exact ⟨rfl, Nat.le_refl _, Nat.le_refl _, Nat.le_refl _, hm⟩
  | ishl =>
    simp only [s_stp, s_fx, s_x_ishl, s_lo_eq, s_fld_eq, s_iv_eq, s_F_eq, s_W_eq, s_lk_eq, s_nq_eq, s_ls_eq, s_len_eq, s_nth_eq, s_al_eq, s_nc_eq, s_ixb_eq, s_c1b_eq, s_c2b_eq] at h
    obtain ⟨x2, x1, t, e0, h9⟩ := s_pII_i h
    subst e0
    cases h9
    exact ⟨rfl, Nat.le_refl _, Nat.le_refl _, Nat.le_refl _, hm⟩
  | ishr =>
    simp only [s_stp, s_fx, s_x_ishr, s_lo_eq, s_fld_eq, s_iv_eq, s_F_eq, s_W_eq, s_lk_eq, s_nq_eq, s_ls_eq, s_len_eq, s_nth_eq, s_al_eq, s_nc_eq, s_ixb_eq, s_c1b_eq, s_c2b_eq] at h
    obtain ⟨x2, x1, t, e0, h9⟩ := s_pII_i h
    subst e0
    cases h9
    exact ⟨rfl, Nat.le_refl _, Nat.le_refl _, Nat.le_refl _, hm⟩
  | iushr =>
    simp only [s_stp, s_fx, s_x_iushr, s_lo_eq, s_fld_eq, s_iv_eq, s_F_eq, s_W_eq, s_lk_eq, s_nq_eq, s_ls_eq, s_len_eq, s_nth_eq, s_al_eq, s_nc_eq, s_ixb_eq, s_c1b_eq, s_c2b_eq] at h
    split at h
    · cases h
      exact ⟨rfl, Nat.le_refl _, Nat.le_refl _, Nat.le_refl _, hm⟩
    · split at h
      · next hq =>
        cases h
        subst hq
        next q t =>
        refine ⟨?_, Nat.le_refl _, Nat.le_refl _, Nat.le_refl _, hm⟩
        show some (pc + 1, s_Lv ε lv, Value.int ((ε q.1 + q.2).toUInt32 >>> ((0 : Int32).toUInt32 &&& Int32.toUInt32 31)).toInt32 :: s_S ε t, s_M ε m, c, d) = some (pc + 1, s_Lv ε lv, Value.int (ε q.1 + q.2) :: s_S ε t, s_M ε m, c, d)
        rw [s_ushr0]
      · cases h
    · cases h
  | ineg =>
    simp only [s_stp, s_fx, s_x_ineg, s_lo_eq, s_fld_eq, s_iv_eq, s_F_eq, s_W_eq, s_lk_eq, s_nq_eq, s_ls_eq, s_len_eq, s_nth_eq, s_al_eq, s_nc_eq, s_ixb_eq, s_c1b_eq, s_c2b_eq] at h
    obtain ⟨x, t, e0, h9⟩ := s_pI_i h
    subst e0
    cases h9
    exact ⟨rfl, Nat.le_refl _, Nat.le_refl _, Nat.le_refl _, hm⟩
  | i2l =>
    simp only [s_stp, s_fx, s_x_i2l, s_lo_eq, s_fld_eq, s_iv_eq, s_F_eq, s_W_eq, s_lk_eq, s_nq_eq, s_ls_eq, s_len_eq, s_nth_eq, s_al_eq, s_nc_eq, s_ixb_eq, s_c1b_eq, s_c2b_eq] at h
    obtain ⟨x, t, e0, h9⟩ := s_pI_i h
    subst e0
    cases h9
    exact ⟨rfl, Nat.le_refl _, Nat.le_refl _, Nat.le_refl _, hm⟩
  | ladd =>
    simp only [s_stp, s_fx, s_x_ladd, s_lo_eq, s_fld_eq, s_iv_eq, s_F_eq, s_W_eq, s_lk_eq, s_nq_eq, s_ls_eq, s_len_eq, s_nth_eq, s_al_eq, s_nc_eq, s_ixb_eq, s_c1b_eq, s_c2b_eq] at h
    obtain ⟨x2, x1, t, e0, h9⟩ := s_pLL_i h
    subst e0
    cases h9
    exact ⟨rfl, Nat.le_refl _, Nat.le_refl _, Nat.le_refl _, hm⟩
  | lmul =>
    simp only [s_stp, s_fx, s_x_lmul, s_lo_eq, s_fld_eq, s_iv_eq, s_F_eq, s_W_eq, s_lk_eq, s_nq_eq, s_ls_eq, s_len_eq, s_nth_eq, s_al_eq, s_nc_eq, s_ixb_eq, s_c1b_eq, s_c2b_eq] at h
    obtain ⟨x2, x1, t, e0, h9⟩ := s_pLL_i h
    subst e0
    cases h9
    exact ⟨rfl, Nat.le_refl _, Nat.le_refl _, Nat.le_refl _, hm⟩
  | lcmp =>
    simp only [s_stp, s_fx, s_x_lcmp, s_lo_eq, s_fld_eq, s_iv_eq, s_F_eq, s_W_eq, s_lk_eq, s_nq_eq, s_ls_eq, s_len_eq, s_nth_eq, s_al_eq, s_nc_eq, s_ixb_eq, s_c1b_eq, s_c2b_eq] at h
    obtain ⟨x2, x1, t, e0, h9⟩ := s_pLL_i h
    subst e0
    cases h9
    exact ⟨rfl, Nat.le_refl _, Nat.le_refl _, Nat.le_refl _, hm⟩
  | dcmp op =>
    simp only [s_stp, s_fx, s_x_dcmp, s_lo_eq, s_fld_eq, s_iv_eq, s_F_eq, s_W_eq, s_lk_eq, s_nq_eq, s_ls_eq, s_len_eq, s_nth_eq, s_al_eq, s_nc_eq, s_ixb_eq, s_c1b_eq, s_c2b_eq] at h
    obtain ⟨x2, x1, t, e0, h9⟩ := s_pDD_i h
    subst e0
    cases h9
    exact ⟨rfl, Nat.le_refl _, Nat.le_refl _, Nat.le_refl _, hm⟩
  | dconst v =>
    simp only [s_stp, s_fx, s_x_dconst, s_lo_eq, s_fld_eq, s_iv_eq, s_F_eq, s_W_eq, s_lk_eq, s_nq_eq, s_ls_eq, s_len_eq, s_nth_eq, s_al_eq, s_nc_eq, s_ixb_eq, s_c1b_eq, s_c2b_eq] at h
    split at h
    · next hv =>
      cases h
      refine ⟨?_, Nat.le_refl _, Nat.le_refl _, Nat.le_refl _, hm⟩
      simp only [g_stp]
      rw [if_pos hv]
      rfl
    · cases h
  | dup =>
    simp only [s_stp, s_fx, s_x_dup, s_lo_eq, s_fld_eq, s_iv_eq, s_F_eq, s_W_eq, s_lk_eq, s_nq_eq, s_ls_eq, s_len_eq, s_nth_eq, s_al_eq, s_nc_eq, s_ixb_eq, s_c1b_eq, s_c2b_eq] at h
    obtain ⟨v, t, e0, h9⟩ := s_pV_i h
    subst e0
    replace h := h9
    split at h
    · next hv =>
      cases h
      refine ⟨?_, Nat.le_refl _, Nat.le_refl _, Nat.le_refl _, hm⟩
      simp only [g_stp, g_pV, s_S, List.map_cons, s_cat_ok]
      rw [if_pos hv]
    · cases h
  | pop =>
    simp only [s_stp, s_fx, s_x_pop, s_lo_eq, s_fld_eq, s_iv_eq, s_F_eq, s_W_eq, s_lk_eq, s_nq_eq, s_ls_eq, s_len_eq, s_nth_eq, s_al_eq, s_nc_eq, s_ixb_eq, s_c1b_eq, s_c2b_eq] at h
    obtain ⟨v, t, e0, h9⟩ := s_pV_i h
    subst e0
    replace h := h9
    split at h
    · next hv =>
      cases h
      refine ⟨?_, Nat.le_refl _, Nat.le_refl _, Nat.le_refl _, hm⟩
      simp only [g_stp, g_pV, s_S, List.map_cons, s_cat_ok]
      rw [if_pos hv]
    · cases h
  | dup_x1 =>
    simp only [s_stp, s_fx, s_x_dup_x1, s_lo_eq, s_fld_eq, s_iv_eq, s_F_eq, s_W_eq, s_lk_eq, s_nq_eq, s_ls_eq, s_len_eq, s_nth_eq, s_al_eq, s_nc_eq, s_ixb_eq, s_c1b_eq, s_c2b_eq] at h
    obtain ⟨v2, v1, t, e0, h9⟩ := s_pVV_i h
    subst e0
    replace h := h9
    split at h
    · next hv =>
      cases h
      refine ⟨?_, Nat.le_refl _, Nat.le_refl _, Nat.le_refl _, hm⟩
      simp only [g_stp, g_pVV, s_S, List.map_cons, s_cat_ok]
      rw [if_pos hv]
    · cases h
  | dup2 =>
    simp only [s_stp, s_fx, s_x_dup2, s_lo_eq, s_fld_eq, s_iv_eq, s_F_eq, s_W_eq, s_lk_eq, s_nq_eq, s_ls_eq, s_len_eq, s_nth_eq, s_al_eq, s_nc_eq, s_ixb_eq, s_c1b_eq, s_c2b_eq] at h
    obtain ⟨v2, v1, t, e0, h9⟩ := s_pVV_i h
    subst e0
    replace h := h9
    split at h
    · next hv =>
      cases h
      refine ⟨?_, Nat.le_refl _, Nat.le_refl _, Nat.le_refl _, hm⟩
      simp only [g_stp, g_pVV, s_S, List.map_cons, s_cat_ok]
      rw [if_pos hv]
    · cases h
  | iload i =>
    simp only [s_stp, s_fx, s_x_iload, s_lo_eq, s_fld_eq, s_iv_eq, s_F_eq, s_W_eq, s_lk_eq, s_nq_eq, s_ls_eq, s_len_eq, s_nth_eq, s_al_eq, s_nc_eq, s_ixb_eq, s_c1b_eq, s_c2b_eq] at h
    split at h
    · next x hx =>
      cases h
      refine ⟨?_, Nat.le_refl _, Nat.le_refl _, Nat.le_refl _, hm⟩
      simp only [g_stp, s_look_ok, hx, Option.map_some, s_v]
      rfl
    · next q hx =>
      cases h
      refine ⟨?_, Nat.le_refl _, Nat.le_refl _, Nat.le_refl _, hm⟩
      simp only [g_stp, s_look_ok, hx, Option.map_some, s_S, List.map_cons, s_rs_ok hI]
      rfl
    · cases h
  | iload_n i =>
    simp only [s_stp, s_fx, s_x_iload_n, s_lo_eq, s_fld_eq, s_iv_eq, s_F_eq, s_W_eq, s_lk_eq, s_nq_eq, s_ls_eq, s_len_eq, s_nth_eq, s_al_eq, s_nc_eq, s_ixb_eq, s_c1b_eq, s_c2b_eq] at h
    split at h
    · next x hx =>
      cases h
      refine ⟨?_, Nat.le_refl _, Nat.le_refl _, Nat.le_refl _, hm⟩
      simp only [g_stp, s_look_ok, hx, Option.map_some, s_v]
      rfl
    · next q hx =>
      cases h
      refine ⟨?_, Nat.le_refl _, Nat.le_refl _, Nat.le_refl _, hm⟩
      simp only [g_stp, s_look_ok, hx, Option.map_some, s_S, List.map_cons, s_rs_ok hI]
      rfl
    · cases h
  | lload i =>
    simp only [s_stp, s_fx, s_x_lload, s_lo_eq, s_fld_eq, s_iv_eq, s_F_eq, s_W_eq, s_lk_eq, s_nq_eq, s_ls_eq, s_len_eq, s_nth_eq, s_al_eq, s_nc_eq, s_ixb_eq, s_c1b_eq, s_c2b_eq] at h
    split at h
    · next x hx =>
      cases h
      refine ⟨?_, Nat.le_refl _, Nat.le_refl _, Nat.le_refl _, hm⟩
      simp only [g_stp, s_look_ok, hx, Option.map_some, s_v]
      rfl
    · cases h
  | lload_n i =>
    simp only [s_stp, s_fx, s_x_lload_n, s_lo_eq, s_fld_eq, s_iv_eq, s_F_eq, s_W_eq, s_lk_eq, s_nq_eq, s_ls_eq, s_len_eq, s_nth_eq, s_al_eq, s_nc_eq, s_ixb_eq, s_c1b_eq, s_c2b_eq] at h
    split at h
    · next x hx =>
      cases h
      refine ⟨?_, Nat.le_refl _, Nat.le_refl _, Nat.le_refl _, hm⟩
      simp only [g_stp, s_look_ok, hx, Option.map_some, s_v]
      rfl
    · cases h
  | dload i =>
    simp only [s_stp, s_fx, s_x_dload, s_lo_eq, s_fld_eq, s_iv_eq, s_F_eq, s_W_eq, s_lk_eq, s_nq_eq, s_ls_eq, s_len_eq, s_nth_eq, s_al_eq, s_nc_eq, s_ixb_eq, s_c1b_eq, s_c2b_eq] at h
    split at h
    · next x hx =>
      cases h
      refine ⟨?_, Nat.le_refl _, Nat.le_refl _, Nat.le_refl _, hm⟩
      simp only [g_stp, s_look_ok, hx, Option.map_some, s_v]
      rfl
    · cases h
  | dload_n i =>
    simp only [s_stp, s_fx, s_x_dload_n, s_lo_eq, s_fld_eq, s_iv_eq, s_F_eq, s_W_eq, s_lk_eq, s_nq_eq, s_ls_eq, s_len_eq, s_nth_eq, s_al_eq, s_nc_eq, s_ixb_eq, s_c1b_eq, s_c2b_eq] at h
    split at h
    · next x hx =>
      cases h
      refine ⟨?_, Nat.le_refl _, Nat.le_refl _, Nat.le_refl _, hm⟩
      simp only [g_stp, s_look_ok, hx, Option.map_some, s_v]
      rfl
    · cases h
  | aload i =>
    simp only [s_stp, s_fx, s_x_aload, s_lo_eq, s_fld_eq, s_iv_eq, s_F_eq, s_W_eq, s_lk_eq, s_nq_eq, s_ls_eq, s_len_eq, s_nth_eq, s_al_eq, s_nc_eq, s_ixb_eq, s_c1b_eq, s_c2b_eq] at h
    split at h
    · next x hx =>
      cases h
      refine ⟨?_, Nat.le_refl _, Nat.le_refl _, Nat.le_refl _, hm⟩
      simp only [g_stp, s_look_ok, hx, Option.map_some, s_v]
      rfl
    · cases h
  | aload_n i =>
    simp only [s_stp, s_fx, s_x_aload_n, s_lo_eq, s_fld_eq, s_iv_eq, s_F_eq, s_W_eq, s_lk_eq, s_nq_eq, s_ls_eq, s_len_eq, s_nth_eq, s_al_eq, s_nc_eq, s_ixb_eq, s_c1b_eq, s_c2b_eq] at h
    split at h
    · next x hx =>
      cases h
      refine ⟨?_, Nat.le_refl _, Nat.le_refl _, Nat.le_refl _, hm⟩
      simp only [g_stp, s_look_ok, hx, Option.map_some, s_v]
      rfl
    · cases h
  | istore i =>
    simp only [s_stp, s_fx, s_x_istore, s_lo_eq, s_fld_eq, s_iv_eq, s_F_eq, s_W_eq, s_lk_eq, s_nq_eq, s_ls_eq, s_len_eq, s_nth_eq, s_al_eq, s_nc_eq, s_ixb_eq, s_c1b_eq, s_c2b_eq] at h
    obtain ⟨v, t, e0, h9⟩ := s_pV_i h
    subst e0
    replace h := h9
    split at h
    · next hv =>
      cases h
      refine ⟨?_, Nat.le_refl _, Nat.le_refl _, Nat.le_refl _, hm⟩
      have e1 := s_isI_ok ε hv.2
      simp only [g_stp, g_pI, s_S, List.map_cons, e1]
      rw [if_pos hv.1, ← e1, s_st1_ok]
    · cases h
  | istore_n i =>
    simp only [s_stp, s_fx, s_x_istore_n, s_lo_eq, s_fld_eq, s_iv_eq, s_F_eq, s_W_eq, s_lk_eq, s_nq_eq, s_ls_eq, s_len_eq, s_nth_eq, s_al_eq, s_nc_eq, s_ixb_eq, s_c1b_eq, s_c2b_eq] at h
    obtain ⟨v, t, e0, h9⟩ := s_pV_i h
    subst e0
    replace h := h9
    split at h
    · next hv =>
      cases h
      refine ⟨?_, Nat.le_refl _, Nat.le_refl _, Nat.le_refl _, hm⟩
      have e1 := s_isI_ok ε hv.2
      simp only [g_stp, g_pI, s_S, List.map_cons, e1]
      rw [if_pos hv.1, ← e1, s_st1_ok]
    · cases h
  | lstore i =>
    simp only [s_stp, s_fx, s_x_lstore, s_lo_eq, s_fld_eq, s_iv_eq, s_F_eq, s_W_eq, s_lk_eq, s_nq_eq, s_ls_eq, s_len_eq, s_nth_eq, s_al_eq, s_nc_eq, s_ixb_eq, s_c1b_eq, s_c2b_eq] at h
    obtain ⟨x, t, e0, h9⟩ := s_pL_i h
    subst e0
    replace h := h9
    split at h
    · next hv =>
      cases h
      refine ⟨?_, Nat.le_refl _, Nat.le_refl _, Nat.le_refl _, hm⟩
      simp only [g_stp, g_pL, s_S, List.map_cons, s_v]
      rw [if_pos hv]
      rw [← s_st2_ok]
      rfl
    · cases h
  | lstore_n i =>
    simp only [s_stp, s_fx, s_x_lstore_n, s_lo_eq, s_fld_eq, s_iv_eq, s_F_eq, s_W_eq, s_lk_eq, s_nq_eq, s_ls_eq, s_len_eq, s_nth_eq, s_al_eq, s_nc_eq, s_ixb_eq, s_c1b_eq, s_c2b_eq] at h
    obtain ⟨x, t, e0, h9⟩ := s_pL_i h
    subst e0
    replace h := h9
    split at h
    · next hv =>
      cases h
      refine ⟨?_, Nat.le_refl _, Nat.le_refl _, Nat.le_refl _, hm⟩
      simp only [g_stp, g_pL, s_S, List.map_cons, s_v]
      rw [if_pos hv]
      rw [← s_st2_ok]
      rfl
    · cases h
  | dstore i =>
    simp only [s_stp, s_fx, s_x_dstore, s_lo_eq, s_fld_eq, s_iv_eq, s_F_eq, s_W_eq, s_lk_eq, s_nq_eq, s_ls_eq, s_len_eq, s_nth_eq, s_al_eq, s_nc_eq, s_ixb_eq, s_c1b_eq, s_c2b_eq] at h
    obtain ⟨x, t, e0, h9⟩ := s_pD_i h
    subst e0
    replace h := h9
    split at h
    · next hv =>
      cases h
      refine ⟨?_, Nat.le_refl _, Nat.le_refl _, Nat.le_refl _, hm⟩
      simp only [g_stp, g_pD, s_S, List.map_cons, s_v]
      rw [if_pos hv]
      rw [← s_st2_ok]
      rfl
    · cases h
  | dstore_n i =>
    simp only [s_stp, s_fx, s_x_dstore_n, s_lo_eq, s_fld_eq, s_iv_eq, s_F_eq, s_W_eq, s_lk_eq, s_nq_eq, s_ls_eq, s_len_eq, s_nth_eq, s_al_eq, s_nc_eq, s_ixb_eq, s_c1b_eq, s_c2b_eq] at h
    obtain ⟨x, t, e0, h9⟩ := s_pD_i h
    subst e0
    replace h := h9
    split at h
    · next hv =>
      cases h
      refine ⟨?_, Nat.le_refl _, Nat.le_refl _, Nat.le_refl _, hm⟩
      simp only [g_stp, g_pD, s_S, List.map_cons, s_v]
      rw [if_pos hv]
      rw [← s_st2_ok]
      rfl
    · cases h
  | astore i =>
    simp only [s_stp, s_fx, s_x_astore, s_lo_eq, s_fld_eq, s_iv_eq, s_F_eq, s_W_eq, s_lk_eq, s_nq_eq, s_ls_eq, s_len_eq, s_nth_eq, s_al_eq, s_nc_eq, s_ixb_eq, s_c1b_eq, s_c2b_eq] at h
    obtain ⟨a, t, e0, h9⟩ := s_pR_i h
    subst e0
    replace h := h9
    split at h
    · next hv =>
      cases h
      refine ⟨?_, Nat.le_refl _, Nat.le_refl _, Nat.le_refl _, hm⟩
      simp only [g_stp, g_pR, s_S, List.map_cons, s_v]
      rw [if_pos hv]
      rw [← s_st1_ok]
      rfl
    · cases h
  | astore_n i =>
    simp only [s_stp, s_fx, s_x_astore_n, s_lo_eq, s_fld_eq, s_iv_eq, s_F_eq, s_W_eq, s_lk_eq, s_nq_eq, s_ls_eq, s_len_eq, s_nth_eq, s_al_eq, s_nc_eq, s_ixb_eq, s_c1b_eq, s_c2b_eq] at h
    obtain ⟨a, t, e0, h9⟩ := s_pR_i h
    subst e0
    replace h := h9
    split at h
    · next hv =>
      cases h
      refine ⟨?_, Nat.le_refl _, Nat.le_refl _, Nat.le_refl _, hm⟩
      simp only [g_stp, g_pR, s_S, List.map_cons, s_v]
      rw [if_pos hv]
      rw [← s_st1_ok]
      rfl
    · cases h
  | iinc i v =>
    simp only [s_stp, s_fx, s_x_iinc, s_lo_eq, s_fld_eq, s_iv_eq, s_F_eq, s_W_eq, s_lk_eq, s_nq_eq, s_ls_eq, s_len_eq, s_nth_eq, s_al_eq, s_nc_eq, s_ixb_eq, s_c1b_eq, s_c2b_eq] at h
    split at h
    · next x hx =>
      split at h
      · next hi =>
        cases h
        refine ⟨?_, Nat.le_refl _, Nat.le_refl _, Nat.le_refl _, hm⟩
        simp only [g_stp, s_look_ok, hx, Option.map_some, s_v]
        rw [if_pos hi, ← s_st1_ok]
        rfl
      · cases h
    · next q hx =>
      split at h
      · next hi =>
        cases h
        refine ⟨?_, Nat.le_refl _, Nat.le_refl _, Nat.le_refl _, hm⟩
        simp only [g_stp, s_look_ok, hx, Option.map_some, s_v]
        rw [if_pos hi, ← s_st1_ok]
        show _ = some (pc + 3, g_st1 (s_Lv ε lv) i (.int (ε q.1 + (q.2 + Int32.ofInt v))), s_S ε st, s_M ε m, c, d)
        rw [Int32.add_assoc]
      · cases h
    · cases h
  | ifCond cd off =>
    simp only [s_stp, s_fx, s_x_ifCond, s_lo_eq, s_fld_eq, s_iv_eq, s_F_eq, s_W_eq, s_lk_eq, s_nq_eq, s_ls_eq, s_len_eq, s_nth_eq, s_al_eq, s_nc_eq, s_ixb_eq, s_c1b_eq, s_c2b_eq] at h
    replace h := Option.bind_eq_some_iff.mp h; obtain ⟨tg, htg, h⟩ := h
    split at h
    · cases h
      refine ⟨?_, Nat.le_refl _, Nat.le_refl _, Nat.le_refl _, hm⟩
      simp only [g_stp, htg, Option.bind_some]
      rfl
    · next q t =>
      split at h
      · next h0 =>
        replace h := Option.bind_eq_some_iff.mp h; obtain ⟨o, ho, h⟩ := h
        cases h
        refine ⟨?_, Nat.le_refl _, Nat.le_refl _, Nat.le_refl _, hm⟩
        have e1 : g_c1 cd (ε q.1 + q.2) = s_o cd o := by
          rw [h0, Int32.add_zero, s_c1_c2]
          exact s_c2_ok cd (s_cmp_i hI ho)
        simp only [g_stp, htg, Option.bind_some, s_S, List.map_cons, s_v, g_pI, e1]
      · cases h
    · cases h
  | if_icmp cd off =>
    simp only [s_stp, s_fx, s_x_if_icmp, s_lo_eq, s_fld_eq, s_iv_eq, s_F_eq, s_W_eq, s_lk_eq, s_nq_eq, s_ls_eq, s_len_eq, s_nth_eq, s_al_eq, s_nc_eq, s_ixb_eq, s_c1b_eq, s_c2b_eq] at h
    replace h := Option.bind_eq_some_iff.mp h; obtain ⟨tg, htg, h⟩ := h
    split at h
    · cases h
      refine ⟨?_, Nat.le_refl _, Nat.le_refl _, Nat.le_refl _, hm⟩
      simp only [g_stp, htg, Option.bind_some]
      rfl
    · next x2 q t =>
      split at h
      · next h0 =>
        replace h := Option.bind_eq_some_iff.mp h; obtain ⟨o, ho, h⟩ := h
        cases h
        refine ⟨?_, Nat.le_refl _, Nat.le_refl _, Nat.le_refl _, hm⟩
        have e1 : g_c2 cd (ε q.1 + q.2) x2 = s_o cd o := by
          rw [h0, Int32.add_zero]
          exact s_c2_ok cd (s_cmp_i hI ho)
        simp only [g_stp, htg, Option.bind_some, s_S, List.map_cons, s_v, g_pII, e1]
      · cases h
    · next q x1 t =>
      split at h
      · next h0 =>
        replace h := Option.bind_eq_some_iff.mp h; obtain ⟨o, ho, h⟩ := h
        cases h
        refine ⟨?_, Nat.le_refl _, Nat.le_refl _, Nat.le_refl _, hm⟩
        have e1 : g_c2 cd x1 (ε q.1 + q.2) = s_o cd (s_sw o) := by
          rw [h0, Int32.add_zero]
          refine s_c2_ok cd ?_
          rcases s_cmp_i hI ho with ⟨rfl, h1⟩ | ⟨rfl, h1⟩ | ⟨rfl, h1⟩
          · exact Or.inr (Or.inr ⟨rfl, h1⟩)
          · exact Or.inr (Or.inl ⟨rfl, h1.symm⟩)
          · exact Or.inl ⟨rfl, h1⟩
        simp only [g_stp, htg, Option.bind_some, s_S, List.map_cons, s_v, g_pII, e1]
      · cases h
    · cases h
  | goto off =>
    simp only [s_stp, s_fx, s_x_goto, s_lo_eq, s_fld_eq, s_iv_eq, s_F_eq, s_W_eq, s_lk_eq, s_nq_eq, s_ls_eq, s_len_eq, s_nth_eq, s_al_eq, s_nc_eq, s_ixb_eq, s_c1b_eq, s_c2b_eq] at h
    replace h := Option.bind_eq_some_iff.mp h; obtain ⟨tg, htg, h⟩ := h
    cases h
    refine ⟨?_, Nat.le_refl _, Nat.le_refl _, Nat.le_refl _, hm⟩
    simp only [g_stp, htg, Option.bind_some]
  | tableswitch df lo hi offs =>
    simp only [s_stp, s_fx, s_x_tableswitch, s_lo_eq, s_fld_eq, s_iv_eq, s_F_eq, s_W_eq, s_lk_eq, s_nq_eq, s_ls_eq, s_len_eq, s_nth_eq, s_al_eq, s_nc_eq, s_ixb_eq, s_c1b_eq, s_c2b_eq] at h
    split at h
    · next v t =>
      have hv := s_rs_ok hI v
      split at h
      · next x hx =>
        rw [hx] at hv
        have e1 : s_S ε (v :: t) = Value.int x :: s_S ε t := by
          show s_v ε v :: s_S ε t = _
          rw [← hv]
          rfl
        split at h
        · next hc =>
          replace h := Option.bind_eq_some_iff.mp h; obtain ⟨tg, htg, h⟩ := h
          cases h
          refine ⟨?_, Nat.le_refl _, Nat.le_refl _, Nat.le_refl _, hm⟩
          simp only [g_stp, e1, g_pI, if_pos hc, htg, Option.bind_some]
        · next hc =>
          replace h := Option.bind_eq_some_iff.mp h; obtain ⟨off, ho, h⟩ := h
          replace h := Option.bind_eq_some_iff.mp h; obtain ⟨tg, htg, h⟩ := h
          cases h
          refine ⟨?_, Nat.le_refl _, Nat.le_refl _, Nat.le_refl _, hm⟩
          simp only [g_stp, e1, g_pI, if_neg hc, ho, htg, Option.bind_some]
      · next q hx =>
        rw [hx] at hv
        split at h
        · next h0 =>
          split at h
          · next r hr =>
            split at h
            · next hc =>
              replace h := Option.bind_eq_some_iff.mp h; obtain ⟨tg, htg, h⟩ := h
              cases h
              refine ⟨?_, Nat.le_refl _, Nat.le_refl _, Nat.le_refl _, hm⟩
              obtain ⟨h1, h2⟩ := hI _ _ hr
              have e1 : s_S ε (v :: t) = Value.int (ε q.1) :: s_S ε t := by
                show s_v ε v :: s_S ε t = _
                rw [← hv]
                show Value.int (ε q.1 + q.2) :: _ = _
                rw [h0, Int32.add_zero]
              have hc2 : (ε q.1).toInt < lo ∨ hi < (ε q.1).toInt := by omega
              simp only [g_stp, e1, g_pI, if_pos hc2, htg, Option.bind_some]
            · cases h
          · cases h
        · cases h
      · cases h
    · cases h
  | ldc ix =>
    simp only [s_stp, s_fx, s_x_ldc, s_lo_eq, s_fld_eq, s_iv_eq, s_F_eq, s_W_eq, s_lk_eq, s_nq_eq, s_ls_eq, s_len_eq, s_nth_eq, s_al_eq, s_nc_eq, s_ixb_eq, s_c1b_eq, s_c2b_eq] at h
    split at h
    · next x j hx =>
      cases h
      refine ⟨?_, Nat.le_refl _, Nat.le_refl _, Nat.le_refl _, hm⟩
      simp only [g_stp, hx]
      rfl
    · cases h
  | ldc2_w ix =>
    simp only [s_stp, s_fx, s_x_ldc2_w, s_lo_eq, s_fld_eq, s_iv_eq, s_F_eq, s_W_eq, s_lk_eq, s_nq_eq, s_ls_eq, s_len_eq, s_nth_eq, s_al_eq, s_nc_eq, s_ixb_eq, s_c1b_eq, s_c2b_eq] at h
    split at h
    · next x j hx =>
      cases h
      refine ⟨?_, Nat.le_refl _, Nat.le_refl _, Nat.le_refl _, hm⟩
      simp only [g_stp, hx]
      rfl
    · cases h
  | getfield ix =>
    simp only [s_stp, s_fx, s_x_getfield, s_lo_eq, s_fld_eq, s_iv_eq, s_F_eq, s_W_eq, s_lk_eq, s_nq_eq, s_ls_eq, s_len_eq, s_nth_eq, s_al_eq, s_nc_eq, s_ixb_eq, s_c1b_eq, s_c2b_eq] at h
    split at h
    · cases h
    · next ci k j host ref hf =>
      obtain ⟨a, t, e0, h9⟩ := s_pR_i h
      subst e0
      replace h := h9
      split at h
      · next cj fs he =>
        split at h
        · next hcj =>
          replace h := Option.bind_eq_some_iff.mp h; obtain ⟨v, hv, h⟩ := h
          cases h
          refine ⟨?_, Nat.le_refl _, Nat.le_refl _, Nat.le_refl _, hm⟩
          simp only [g_stp, hf, s_S, List.map_cons, s_v, g_pR, s_rd_ok hm, he, Option.map_some, s_e]
          rw [if_pos hcj, List.getElem?_map, hv]
          show some (pc + 3, s_Lv ε lv, s_v ε v :: s_S ε t, s_M ε m, c, d) = some (pc + 3, s_Lv ε lv, s_v ε (s_rs I v) :: s_S ε t, s_M ε m, c, d)
          rw [s_rs_ok hI]
        · cases h
      · cases h
  | putfield ix =>
    simp only [s_stp, s_fx, s_x_putfield, s_lo_eq, s_fld_eq, s_iv_eq, s_F_eq, s_W_eq, s_lk_eq, s_nq_eq, s_ls_eq, s_len_eq, s_nth_eq, s_al_eq, s_nc_eq, s_ixb_eq, s_c1b_eq, s_c2b_eq] at h
    split at h
    · cases h
    · next ci k j host ref hf =>
      obtain ⟨v, a, t, e0, h9⟩ := s_pRV_i h
      subst e0
      replace h := h9
      split at h
      · next cj fs ty he hty =>
        split at h
        · next hc =>
          cases h
          obtain ⟨c1, c2, c3, c4, c5⟩ := hc
          refine ⟨?_, Nat.le_refl _, Nat.le_refl _, Nat.le_refl _, s_set_wf hm (by rw [he]; rfl) _⟩
          have hq := s_put_ok ε c3
          rw [← s_ft_ok hty] at hq
          have e1 : s_e ε (.inl (ci, fs.set k v)) = .inl (ci, (fs.map (s_v ε)).set k (s_v ε v)) := by
            simp only [s_e, List.map_set]
          have e2 := s_set_ok (ε := ε) hm (a := a) (e := .inl (ci, fs.set k v)) (by rw [he]; rfl)
          rw [e1] at e2
          have e0 : s_S ε (v :: .inl (.ref a) :: t) = s_v ε v :: Value.ref a :: s_S ε t := rfl
          simp only [g_stp, hf, e0, g_pRV, s_rd_ok hm, he, Option.map_some, s_e]
          rw [if_pos ⟨c1, by rw [List.length_map]; exact c2, hq, by rw [← c4]; exact s_ok_ok ε m.1 v, s_pf_i c5⟩, e2]
        · cases h
      · cases h
  | new ix =>
    simp only [s_stp, s_fx, s_x_new, s_lo_eq, s_fld_eq, s_iv_eq, s_F_eq, s_W_eq, s_lk_eq, s_nq_eq, s_ls_eq, s_len_eq, s_nth_eq, s_al_eq, s_nc_eq, s_ixb_eq, s_c1b_eq, s_c2b_eq] at h
    split at h
    · cases h
    · next ci j j1 j2 hf =>
      split at h
      · next l hl =>
        split at h
        · next hc =>
          cases h
          refine ⟨?_, Nat.le_succ _, Nat.le_succ _, Nat.le_add_right _ _, s_new_wf hm hc.1 _⟩
          have e2 := s_new_ok (ε := ε) hm hc.1 (some (.inl (ci, l)))
          have e3 : (some (Sum.inl (ci, l)) : Option sE).map (s_e ε) = some (.inl (ci, g_df ci)) := by
            simp only [Option.map_some, s_e, s_df_ok ε hl]
          rw [e3] at e2
          simp only [g_stp, hf]
          rw [if_pos ⟨by rw [← hc.2.1]; exact s_allL_ok ε m.1 lv, by rw [← hc.2.2]; exact s_all_ok ε m.1 st⟩, e2]
          rfl
        · cases h
      · cases h
  | newarray at_ =>
    simp only [s_stp, s_fx, s_x_newarray, s_lo_eq, s_fld_eq, s_iv_eq, s_F_eq, s_W_eq, s_lk_eq, s_nq_eq, s_ls_eq, s_len_eq, s_nth_eq, s_al_eq, s_nc_eq, s_ixb_eq, s_c1b_eq, s_c2b_eq] at h
    obtain ⟨x, t, e0, h9⟩ := s_pI_i h
    subst e0
    replace h := h9
    split at h
    · next hc =>
      have hg : (s_Lv ε lv).all (fun q => g_ok (s_M ε m).1 q.2) = true ∧ (s_S ε t).all (g_ok (s_M ε m).1) = true := ⟨by rw [← hc.2.2.2.1]; exact s_allL_ok ε m.1 lv, by rw [← hc.2.2.2.2]; exact s_all_ok ε m.1 t⟩
      split at h
      · cases h
        refine ⟨?_, Nat.le_succ _, Nat.le_succ _, Nat.le_add_right _ _, s_new_wf hm hc.2.2.1 _⟩
        have e2 := s_new_ok (ε := ε) hm hc.2.2.1 (some (.inr (0, .inl (List.replicate x.toNatClampNeg (.inl (.int 0))))))
        have e3 : (some (Sum.inr (0, .inl (List.replicate x.toNatClampNeg (.inl (.int 0))))) : Option sE).map (s_e ε) = some (.inr (0, x.toNatClampNeg, .inl (fun _ => 0))) := by
          simp only [Option.map_some, s_e, s_repl, List.length_replicate]
          rfl
        rw [e3] at e2
        simp only [g_stp, s_S, List.map_cons, s_v, g_pI]
        rw [if_pos ⟨hc.1, hc.2.1, hg.1, hg.2⟩]
        rw [e2]
        rfl
      · cases h
        refine ⟨?_, Nat.le_succ _, Nat.le_succ _, Nat.le_add_right _ _, s_new_wf hm hc.2.2.1 _⟩
        have e2 := s_new_ok (ε := ε) hm hc.2.2.1 (some (.inr (1, .inr (.inl (List.replicate x.toNatClampNeg 0)))))
        have e3 : (some (Sum.inr (1, .inr (.inl (List.replicate x.toNatClampNeg 0)))) : Option sE).map (s_e ε) = some (.inr (1, x.toNatClampNeg, .inr (.inl (fun _ => 0)))) := by
          simp only [Option.map_some, s_e, s_repl, List.length_replicate]
        rw [e3] at e2
        simp only [g_stp, s_S, List.map_cons, s_v, g_pI]
        rw [if_pos ⟨hc.1, hc.2.1, hg.1, hg.2⟩]
        rw [e2]
        rfl
      · cases h
    · cases h
  | anewarray ix =>
    simp only [s_stp, s_fx, s_x_anewarray, s_lo_eq, s_fld_eq, s_iv_eq, s_F_eq, s_W_eq, s_lk_eq, s_nq_eq, s_ls_eq, s_len_eq, s_nth_eq, s_al_eq, s_nc_eq, s_ixb_eq, s_c1b_eq, s_c2b_eq] at h
    split at h
    · cases h
    · next tg j j1 hf =>
      obtain ⟨x, t, e0, h9⟩ := s_pI_i h
      subst e0
      replace h := h9
      split at h
      · next hc =>
        have hg : (s_Lv ε lv).all (fun q => g_ok (s_M ε m).1 q.2) = true ∧ (s_S ε t).all (g_ok (s_M ε m).1) = true := ⟨by rw [← hc.2.2.2.1]; exact s_allL_ok ε m.1 lv, by rw [← hc.2.2.2.2]; exact s_all_ok ε m.1 t⟩
        cases h
        refine ⟨?_, Nat.le_succ _, Nat.le_succ _, Nat.le_add_right _ _, s_new_wf hm hc.2.2.1 _⟩
        have e2 := s_new_ok (ε := ε) hm hc.2.2.1 (some (.inr (tg, .inr (.inr (List.replicate x.toNatClampNeg none)))))
        have e3 : (some (Sum.inr (tg, .inr (.inr (List.replicate x.toNatClampNeg none)))) : Option sE).map (s_e ε) = some (.inr (tg, x.toNatClampNeg, .inr (.inr (fun _ => none)))) := by
          simp only [Option.map_some, s_e, s_repl, List.length_replicate]
        rw [e3] at e2
        simp only [g_stp, hf, s_S, List.map_cons, s_v, g_pI]
        rw [if_pos ⟨hc.1, hc.2.1, hg.1, hg.2⟩, e2]
        rfl
      · cases h
  | arraylength =>
    simp only [s_stp, s_fx, s_x_arraylength, s_lo_eq, s_fld_eq, s_iv_eq, s_F_eq, s_W_eq, s_lk_eq, s_nq_eq, s_ls_eq, s_len_eq, s_nth_eq, s_al_eq, s_nc_eq, s_ixb_eq, s_c1b_eq, s_c2b_eq] at h
    obtain ⟨a, t, e0, h9⟩ := s_pR_i h
    subst e0
    replace h := h9
    split at h
    · next h0 =>
      cases h
      refine ⟨?_, Nat.le_refl _, Nat.le_refl _, Nat.le_refl _, hm⟩
      simp only [g_stp, s_S, List.map_cons, s_v, g_pR]
      rw [if_pos h0]
    · next h0 =>
      split at h
      · next h1 =>
        cases h
        refine ⟨?_, Nat.le_refl _, Nat.le_refl _, Nat.le_refl _, hm⟩
        simp only [g_stp, s_S, List.map_cons, s_v, g_pR]
        rw [if_neg h0, if_pos h1]
      · next h1 =>
        split at h
        · next tg l he =>
          cases h
          refine ⟨?_, Nat.le_refl _, Nat.le_refl _, Nat.le_refl _, hm⟩
          simp only [g_stp, s_S, List.map_cons, s_v, g_pR, s_rd_ok hm, he, Option.map_some, s_e]
          rw [if_neg h0, if_neg h1]
        · next tg l he =>
          cases h
          refine ⟨?_, Nat.le_refl _, Nat.le_refl _, Nat.le_refl _, hm⟩
          simp only [g_stp, s_S, List.map_cons, s_v, g_pR, s_rd_ok hm, he, Option.map_some, s_e]
          rw [if_neg h0, if_neg h1]
        · next tg l he =>
          cases h
          refine ⟨?_, Nat.le_refl _, Nat.le_refl _, Nat.le_refl _, hm⟩
          simp only [g_stp, s_S, List.map_cons, s_v, g_pR, s_rd_ok hm, he, Option.map_some, s_e]
          rw [if_neg h0, if_neg h1]
        · cases h
  | iaload =>
    simp only [s_stp, s_fx, s_x_iaload, s_lo_eq, s_fld_eq, s_iv_eq, s_F_eq, s_W_eq, s_lk_eq, s_nq_eq, s_ls_eq, s_len_eq, s_nth_eq, s_al_eq, s_nc_eq, s_ixb_eq, s_c1b_eq, s_c2b_eq] at h
    obtain ⟨v, a, t, e0, h9⟩ := s_pRVx_i h
    subst e0
    replace h := h9
    have hv := s_rs_ok hI v
    split at h
    · next i hi =>
      rw [hi] at hv
      have e1 : s_S ε (v :: .inl (.ref a) :: t) = Value.int i :: Value.ref a :: s_S ε t := by
        show s_v ε v :: Value.ref a :: s_S ε t = _
        rw [← hv]
        rfl
      split at h
      · next h0 =>
        split at h
        · next hc =>
          cases h
          refine ⟨?_, Nat.le_refl _, Nat.le_refl _, Nat.le_refl _, hm⟩
          have hlt : i.toNatClampNeg < L := by
            simp only [g_ix, Bool.not_eq_true', Bool.or_eq_false_iff, decide_eq_false_iff_not] at hc
            omega
          have e2 : s_S ε (s_rs I (.inr (i.toNatClampNeg, 0)) :: t) = Value.int (xs i.toNatClampNeg) :: s_S ε t := by
            show s_v ε (s_rs I (.inr (i.toNatClampNeg, 0))) :: s_S ε t = _
            rw [s_rs_ok hI]
            show Value.int (ε i.toNatClampNeg + 0) :: s_S ε t = _
            rw [Int32.add_zero, hxs _ (Nat.lt_of_lt_of_le hlt hL)]
          simp only [g_stp, e1, g_pRI]
          rw [if_pos h0, if_pos hc, e2]
        · cases h
      · next h0 =>
        split at h
        · next l he =>
          split at h
          · next hc =>
            cases h
            refine ⟨?_, Nat.le_refl _, Nat.le_refl _, Nat.le_refl _, hm⟩
            have e2 : s_S ε (s_rs I (l.getD i.toNatClampNeg (.inl (.int 0))) :: t) = Value.int (s_i ε (l.getD i.toNatClampNeg (.inl (.int 0)))) :: s_S ε t := by
              show s_v ε (s_rs I (l.getD i.toNatClampNeg (.inl (.int 0)))) :: s_S ε t = _
              rw [s_rs_ok hI, s_isI_ok ε hc.2]
            simp only [g_stp, e1, g_pRI, s_rd_ok hm, he, Option.map_some, s_e]
            rw [if_neg h0, if_pos hc.1, e2]
          · cases h
        · cases h
    · cases h
  | laload =>
    simp only [s_stp, s_fx, s_x_laload, s_lo_eq, s_fld_eq, s_iv_eq, s_F_eq, s_W_eq, s_lk_eq, s_nq_eq, s_ls_eq, s_len_eq, s_nth_eq, s_al_eq, s_nc_eq, s_ixb_eq, s_c1b_eq, s_c2b_eq] at h
    obtain ⟨i, a, t, e0, h9⟩ := s_pRI_i h
    subst e0
    replace h := h9
    split at h
    · next l he =>
      split at h
      · next hc =>
        cases h
        refine ⟨?_, Nat.le_refl _, Nat.le_refl _, Nat.le_refl _, hm⟩
        simp only [g_stp, s_S, List.map_cons, s_v, g_pRI, s_rd_ok hm, he, Option.map_some, s_e]
        rw [if_pos hc]
      · cases h
    · cases h
  | aaload =>
    simp only [s_stp, s_fx, s_x_aaload, s_lo_eq, s_fld_eq, s_iv_eq, s_F_eq, s_W_eq, s_lk_eq, s_nq_eq, s_ls_eq, s_len_eq, s_nth_eq, s_al_eq, s_nc_eq, s_ixb_eq, s_c1b_eq, s_c2b_eq] at h
    obtain ⟨i, a, t, e0, h9⟩ := s_pRI_i h
    subst e0
    replace h := h9
    split at h
    · next tg l he =>
      split at h
      · next hc =>
        cases h
        refine ⟨?_, Nat.le_refl _, Nat.le_refl _, Nat.le_refl _, hm⟩
        simp only [g_stp, s_S, List.map_cons, s_v, g_pRI, s_rd_ok hm, he, Option.map_some, s_e]
        rw [if_pos hc]
      · cases h
    · cases h
  | iastore =>
    simp only [s_stp, s_fx, s_x_iastore, s_lo_eq, s_fld_eq, s_iv_eq, s_F_eq, s_W_eq, s_lk_eq, s_nq_eq, s_ls_eq, s_len_eq, s_nth_eq, s_al_eq, s_nc_eq, s_ixb_eq, s_c1b_eq, s_c2b_eq] at h
    obtain ⟨v, i, a, t, e0, h9⟩ := s_pRVI_i h
    subst e0
    replace h := h9
    split at h
    · next l he =>
      split at h
      · next hc =>
        cases h
        refine ⟨?_, Nat.le_refl _, Nat.le_refl _, Nat.le_refl _, s_set_wf hm (by rw [he]; rfl) _⟩
        have hlt : i.toNatClampNeg < l.length := by
          have h1 := hc.1
          simp only [g_ix, Bool.not_eq_true', Bool.or_eq_false_iff, decide_eq_false_iff_not] at h1
          omega
        have e2 := s_set_ok (ε := ε) hm (a := a) (e := .inr (0, .inl (l.set i.toNatClampNeg v))) (by rw [he]; rfl)
        have e3 : s_e ε (.inr (0, .inl (l.set i.toNatClampNeg v))) = .inr (0, l.length, .inl (upd (fun j => s_i ε (l.getD j (.inl (.int 0)))) i.toNatClampNeg (s_i ε v))) := by
          have e4 : upd (fun j => s_i ε (l.getD j (.inl (.int 0)))) i.toNatClampNeg (s_i ε v) = fun j => s_i ε ((l.set i.toNatClampNeg v).getD j (.inl (.int 0))) := s_upd_ok (s_i ε) _ hlt v
          rw [e4]
          simp only [s_e, List.length_set]
        rw [e3] at e2
        have e0 : s_S ε (v :: .inl (.int i) :: .inl (.ref a) :: t) = Value.int (s_i ε v) :: Value.int i :: Value.ref a :: s_S ε t := by
          show s_v ε v :: _ = _
          rw [s_isI_ok ε hc.2]
          rfl
        simp only [g_stp, e0, g_pRII, s_rd_ok hm, he, Option.map_some, s_e]
        rw [if_pos hc.1, e2]
      · cases h
    · cases h
  | lastore =>
    simp only [s_stp, s_fx, s_x_lastore, s_lo_eq, s_fld_eq, s_iv_eq, s_F_eq, s_W_eq, s_lk_eq, s_nq_eq, s_ls_eq, s_len_eq, s_nth_eq, s_al_eq, s_nc_eq, s_ixb_eq, s_c1b_eq, s_c2b_eq] at h
    obtain ⟨x, i, a, t, e0, h9⟩ := s_pRIL_i h
    subst e0
    replace h := h9
    split at h
    · next l he =>
      split at h
      · next hc =>
        cases h
        refine ⟨?_, Nat.le_refl _, Nat.le_refl _, Nat.le_refl _, s_set_wf hm (by rw [he]; rfl) _⟩
        have hlt : i.toNatClampNeg < l.length := by
          have h1 := hc
          simp only [g_ix, Bool.not_eq_true', Bool.or_eq_false_iff, decide_eq_false_iff_not] at h1
          omega
        have e2 := s_set_ok (ε := ε) hm (a := a) (e := .inr (1, .inr (.inl (l.set i.toNatClampNeg x)))) (by rw [he]; rfl)
        have e3 : s_e ε (.inr (1, .inr (.inl (l.set i.toNatClampNeg x)))) = .inr (1, l.length, .inr (.inl (vp_updL (fun j => l.getD j 0) i.toNatClampNeg x))) := by
          have e4 : vp_updL (fun j => l.getD j 0) i.toNatClampNeg x = fun j => (l.set i.toNatClampNeg x).getD j 0 := s_upd_ok id _ hlt x
          rw [e4]
          simp only [s_e, List.length_set]
        rw [e3] at e2
        simp only [g_stp, s_S, List.map_cons, s_v, g_pRIL, s_rd_ok hm, he, Option.map_some, s_e]
        rw [if_pos hc, e2]
      · cases h
    · cases h
  | aastore =>
    simp only [s_stp, s_fx, s_x_aastore, s_lo_eq, s_fld_eq, s_iv_eq, s_F_eq, s_W_eq, s_lk_eq, s_nq_eq, s_ls_eq, s_len_eq, s_nth_eq, s_al_eq, s_nc_eq, s_ixb_eq, s_c1b_eq, s_c2b_eq] at h
    obtain ⟨v, i, a, t, e0, h9⟩ := s_pRIR_i h
    subst e0
    replace h := h9
    split at h
    · next tg l ci fs he hv =>
      split at h
      · next hc =>
        cases h
        refine ⟨?_, Nat.le_refl _, Nat.le_refl _, Nat.le_refl _, s_set_wf hm (by rw [he]; rfl) _⟩
        have hlt : i.toNatClampNeg < l.length := by
          have h1 := hc.1
          simp only [g_ix, Bool.not_eq_true', Bool.or_eq_false_iff, decide_eq_false_iff_not] at h1
          omega
        have e2 := s_set_ok (ε := ε) hm (a := a) (e := .inr (tg, .inr (.inr (l.set i.toNatClampNeg (some v))))) (by rw [he]; rfl)
        have e3 : s_e ε (.inr (tg, .inr (.inr (l.set i.toNatClampNeg (some v))))) = .inr (tg, l.length, .inr (.inr (va_up (fun j => l.getD j none) i.toNatClampNeg (some v)))) := by
          have e4 : va_up (fun j => l.getD j none) i.toNatClampNeg (some v) = fun j => (l.set i.toNatClampNeg (some v)).getD j none := s_upd_ok id _ hlt (some v)
          rw [e4]
          simp only [s_e, List.length_set]
        rw [e3] at e2
        simp only [g_stp, s_S, List.map_cons, s_v, g_pRIR, s_rd_ok hm, he, hv, Option.map_some, s_e]
        rw [if_pos ⟨hc.1, s_okA_i hc.2⟩, e2]
      · next hnc =>
       split at h
       · next hc =>
        cases h
        refine ⟨?_, Nat.le_refl _, Nat.le_refl _, Nat.le_refl _, s_set_wf hm (by rw [he]; rfl) _⟩
        have hlt : i.toNatClampNeg < l.length := by
          have h1 := hc.1
          simp only [g_ix, Bool.not_eq_true', Bool.or_eq_false_iff, decide_eq_false_iff_not] at h1
          omega
        have e2 := s_set_ok (ε := ε) hm (a := a) (e := .inr (tg, .inr (.inr (l.set i.toNatClampNeg (some v))))) (by rw [he]; rfl)
        have e3 : s_e ε (.inr (tg, .inr (.inr (l.set i.toNatClampNeg (some v))))) = .inr (tg, l.length, .inr (.inr (va_up (fun j => l.getD j none) i.toNatClampNeg (some v)))) := by
          have e4 : va_up (fun j => l.getD j none) i.toNatClampNeg (some v) = fun j => (l.set i.toNatClampNeg (some v)).getD j none := s_upd_ok id _ hlt (some v)
          rw [e4]
          simp only [s_e, List.length_set]
        rw [e3] at e2
        simp only [g_stp, s_S, List.map_cons, s_v, g_pRIR, s_rd_ok hm, he, hv, Option.map_some, s_e]
        rw [if_pos hc, ite_self, e2]
       · cases h
    · next tg l lw he hv =>
      split at h
      · next hc =>
        cases h
        refine ⟨?_, Nat.le_refl _, Nat.le_refl _, Nat.le_refl _, s_set_wf hm (by rw [he]; rfl) _⟩
        have hlt : i.toNatClampNeg < l.length := by
          have h1 := hc.1
          simp only [g_ix, Bool.not_eq_true', Bool.or_eq_false_iff, decide_eq_false_iff_not] at h1
          omega
        have e2 := s_set_ok (ε := ε) hm (a := a) (e := .inr (tg, .inr (.inr (l.set i.toNatClampNeg (some v))))) (by rw [he]; rfl)
        have e3 : s_e ε (.inr (tg, .inr (.inr (l.set i.toNatClampNeg (some v))))) = .inr (tg, l.length, .inr (.inr (va_up (fun j => l.getD j none) i.toNatClampNeg (some v)))) := by
          have e4 : va_up (fun j => l.getD j none) i.toNatClampNeg (some v) = fun j => (l.set i.toNatClampNeg (some v)).getD j none := s_upd_ok id _ hlt (some v)
          rw [e4]
          simp only [s_e, List.length_set]
        rw [e3] at e2
        simp only [g_stp, s_S, List.map_cons, s_v, g_pRIR, s_rd_ok hm, he, hv, Option.map_some, s_e]
        rw [if_pos hc, e2]
      · cases h
    · cases h
  | invokestatic ix =>
    simp only [s_stp, s_fx, s_x_invokestatic, s_lo_eq, s_fld_eq, s_iv_eq, s_F_eq, s_W_eq, s_lk_eq, s_nq_eq, s_ls_eq, s_len_eq, s_nth_eq, s_al_eq, s_nc_eq, s_ixb_eq, s_c1b_eq, s_c2b_eq] at h
    split at h
    · next z na rest hf =>
      obtain ⟨ci, j, j1, j2, j3, host⟩ := rest
      obtain ⟨x2, x1, t, e0, h9⟩ := s_pII_i h
      subst e0
      replace h := h9
      split at h
      · next hc =>
        cases h
        refine ⟨?_, Nat.le_refl _, Nat.le_refl _, Nat.le_refl _, hm⟩
        have hc2 : ((s_S ε t).map fun v => v.category).sum ≤ 8 ∧ 1 ≤ gF y ∧ 21 ≤ gW y := by rw [s_cats_ok]; exact hc
        simp only [g_stp, hf]
        show (if ((s_S ε t).map fun v => v.category).sum ≤ 8 ∧ 1 ≤ gF y ∧ 21 ≤ gW y then _ else _) = _
        rw [if_pos hc2]
        rfl
      · cases h
    · next z na rest hf =>
      obtain ⟨ci, j, j1, j2, j3, host⟩ := rest
      obtain ⟨x2, x1, t, e0, h9⟩ := s_pII_i h
      subst e0
      replace h := h9
      split at h
      · next hc =>
        cases h
        refine ⟨?_, Nat.le_refl _, Nat.le_refl _, Nat.le_refl _, hm⟩
        have hc2 : ((s_S ε t).map fun v => v.category).sum ≤ 8 ∧ 1 ≤ gF y ∧ 21 ≤ gW y := by rw [s_cats_ok]; exact hc
        simp only [g_stp, hf]
        show (if ((s_S ε t).map fun v => v.category).sum ≤ 8 ∧ 1 ≤ gF y ∧ 21 ≤ gW y then _ else _) = _
        rw [if_pos hc2]
        rfl
      · cases h
    · next z na rest hf =>
      obtain ⟨ci, j, j1, j2, j3, host⟩ := rest
      split at h
      · next n dp a sp a0 t =>
        split at h
        · next f g he0 he1 =>
          split at h
          · next hc =>
            cases h
            obtain ⟨c1, c2, c3, c4, c5, c6, c7, c8⟩ := hc
            refine ⟨?_, Nat.le_refl _, Nat.le_refl _, Nat.le_refl _, s_set_wf hm (by rw [he1]; rfl) _⟩
            have e2 := s_set_ok (ε := ε) hm (a := a) (e := .inr (0, .inl (s_cpy (.inl (.int 0)) f g sp.toNatClampNeg dp.toNatClampNeg n.toNatClampNeg))) (by rw [he1]; rfl)
            have e3 : s_e ε (.inr (0, .inl (s_cpy (.inl (.int 0)) f g sp.toNatClampNeg dp.toNatClampNeg n.toNatClampNeg))) = .inr (0, g.length, .inl (va_cpy (fun i => s_i ε (f.getD i (.inl (.int 0)))) (fun i => s_i ε (g.getD i (.inl (.int 0)))) sp.toNatClampNeg dp.toNatClampNeg n.toNatClampNeg)) := by
              rw [s_cpy_ok (s_i ε) _ c5]
              simp only [s_e, s_cpy, List.length_map, List.length_range]
            rw [e3] at e2
            have hc2 : ((List.map (s_v ε) t).map fun v => v.category).sum ≤ 8 := by
              have := s_cats_ok ε t
              simp only [s_S] at this
              rw [this]; exact c6
            simp only [g_stp, hf, s_S, List.map_cons, s_v, s_rd_ok hm, he0, he1, Option.map_some, s_e]
            rw [if_pos ⟨c1, c2, c3, c4, c5, hc2, c7, c8⟩, e2]
          · cases h
        · cases h
      · cases h
    · cases h
  | getstatic ix =>
    simp only [s_stp, s_fx, s_x_getstatic, s_lo_eq, s_fld_eq, s_iv_eq, s_F_eq, s_W_eq, s_lk_eq, s_nq_eq, s_ls_eq, s_len_eq, s_nth_eq, s_al_eq, s_nc_eq, s_ixb_eq, s_c1b_eq, s_c2b_eq] at h
    split at h
    · next j hf =>
      cases h
      refine ⟨?_, Nat.le_refl _, Nat.le_refl _, Nat.le_refl _, hm⟩
      simp only [g_stp, hf]
      rfl
    · cases h
  | if_acmp cd off =>
    simp only [s_stp, s_fx, s_x_if_acmp, s_lo_eq, s_fld_eq, s_iv_eq, s_F_eq, s_W_eq, s_lk_eq, s_nq_eq, s_ls_eq, s_len_eq, s_nth_eq, s_al_eq, s_nc_eq, s_ixb_eq, s_c1b_eq, s_c2b_eq] at h
    replace h := Option.bind_eq_some_iff.mp h; obtain ⟨tg, htg, h⟩ := h
    split at h
    · next a2 a1 t =>
      split at h
      · next ha =>
        split at h
        · cases h
          refine ⟨?_, Nat.le_refl _, Nat.le_refl _, Nat.le_refl _, hm⟩
          simp only [g_stp, htg, Option.bind_some, s_S, List.map_cons, s_v, g_pVV]
          rw [if_pos ha]
        · cases h
          refine ⟨?_, Nat.le_refl _, Nat.le_refl _, Nat.le_refl _, hm⟩
          simp only [g_stp, htg, Option.bind_some, s_S, List.map_cons, s_v, g_pVV]
          rw [if_pos ha]
      · cases h
    · cases h
  | invokespecial ix =>
    simp only [s_stp, s_fx, s_x_invokespecial, s_lo_eq, s_fld_eq, s_iv_eq, s_F_eq, s_W_eq, s_lk_eq, s_nq_eq, s_ls_eq, s_len_eq, s_nth_eq, s_al_eq, s_nc_eq, s_ixb_eq, s_c1b_eq, s_c2b_eq] at h
    split at h
    · next z na rest hf =>
      obtain ⟨ci, j, j1, j2, j3, host⟩ := rest
      obtain ⟨a, t, e0, h9⟩ := s_pR_i h
      subst e0
      replace h := h9
      split at h
      · next hc =>
        cases h
        refine ⟨?_, Nat.le_refl _, Nat.le_refl _, Nat.le_refl _, hm⟩
        have hc2 : ((s_S ε t).map fun v => v.category).sum ≤ 8 ∧ 1 ≤ gF y ∧ 21 ≤ gW y := by rw [s_cats_ok]; exact hc
        simp only [g_stp, hf]
        show (if ((s_S ε t).map fun v => v.category).sum ≤ 8 ∧ 1 ≤ gF y ∧ 21 ≤ gW y then _ else _) = _
        rw [if_pos hc2]
        rfl
      · cases h
    · cases h
  | _ => cases h
