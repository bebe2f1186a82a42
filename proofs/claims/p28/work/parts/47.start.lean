/-! from the entry -/
theorem J_new {xs : Nat → Int32} {L y pc n ix ci c d : Nat} {w : Nat × Nat × Nat} {lv : gL} {st : List Value} {M : gM} {o : gOut} (hT : gThr y pc = none) (hI : gI y pc = some (.new ix, n)) (hw : gNw y ix = some (ci, w)) (hl : lv.all (fun q => g_ok M.1 q.2) = true) (hst : st.all (g_ok M.1) = true) (h : g_R xs L y (pc + 3) lv (.ref M.1 :: st) (M.1 + 1, va_up M.2 M.1 (some (.inl (ci, g_df ci)))) (c + 1) (d + (g_cl ci).2.2) o) : g_R xs L y pc lv st M c d o := by
  refine g_R_stp (q := (pc + 3, lv, .ref M.1 :: st, (M.1 + 1, va_up M.2 M.1 (some (.inl (ci, g_df ci)))), c + 1, d + (g_cl ci).2.2)) hT hI rfl rfl ?_ ⟨Nat.le_succ _, Nat.le_succ _, Nat.le_add_right _ _⟩ h
  show ((match gNw y ix with
    | none => none
    | some (ci, _, _, _) => if lv.all (fun q => g_ok M.1 q.2) = true ∧ st.all (g_ok M.1) = true then some (pc + 3, lv, Value.ref M.1 :: st, (M.1 + 1, va_up M.2 M.1 (some (.inl (ci, g_df ci)))), c + 1, d + (g_cl ci).2.2) else none : Option gCf)) = _
  rw [hw]
  dsimp only
  rw [if_pos ⟨hl, hst⟩]
theorem n_M1 : (((1 : Nat) + 1, va_up (fun _ => none) 1 (some (.inl (5, g_df 5)))) : gM) = nM [.inl (5, g_df 5)] := by
  have h := nM_app [] (.inl (5, g_df 5))
  have e : nM [] = (1, fun _ => none) := by
    unfold nM
    refine Prod.ext rfl (funext fun a => ?_)
    show (if a = 0 then none else (([] : List nE)[a - 1]?).map nG) = none
    split <;> rfl
  rw [e] at h
  exact h
set_option maxRecDepth 100000 in
theorem n_T0 : gThr 74 0 = none := by decide +kernel
set_option maxRecDepth 100000 in
theorem n_w9 : gNw 74 9 = some (5, (gNw 74 9).get!.2) := by decide +kernel
set_option maxRecDepth 100000 in
theorem n_y74 : g_ylaw = 74 := by decide +kernel
set_option maxRecDepth 100000 in
theorem n_cl5 : (g_cl 5).2.2 ≤ 100 := by decide +kernel
theorem law_all (xs : Nat → Int32) {L : Nat} (hL : L ≤ 260) : ∃ (k : Nat) (M1 : gM) (c1 d1 : Nat), g_run xs L k g_ylaw 0 [(0, .ref 0)] [] (1, fun _ => none) 0 0 = some (.inl (some (.int 1)), M1, c1, d1) ∧ c1 ≤ 6000 ∧ d1 ≤ 100000 := by
  obtain ⟨l, c, d, hr, hc, hd, hM, hm1, hm2⟩ := n_ctor xs L
  obtain ⟨x, ψ', X', nd, ⟨hx, hX5⟩, h1, h2, h3⟩ := m_74 (xs := xs) (L0 := L) (X := nM l) hL ψ0_SI hm1 rfl hm2
  rw [hm1] at h1 h2 h3
  have hn := n_cl5
  have hq : jQ 132 ([some (Value.ref 0)] ++ List.replicate 14 none) [(0, Value.ref 0)] := jQ_args (m := 132) (as := [Value.ref 0]) (j := 14) rfl rfl
  have h4 := h3 [(0, Value.ref 0)] (0 + 1 + c) (0 + (g_cl 5).2.2 + d) hq
  rw [hx, ← hM] at h4
  have hinv : g_inv 74 (.invokespecial 11) ([] ++ Value.ref 1 :: [Value.ref 1]) [(0, Value.ref 0)] (nM [.inl (5, g_df 5)]) = some (5, Value.ref 1 :: [].reverse, [Value.ref 1]) := J_inv (args := []) (rest := [Value.ref 1]) rfl (by decide) v_74_11 (by decide +kernel) rfl rfl (Nat.le_of_ble_eq_true rfl) (fun h => absurd h (by decide)) (Or.inr rfl) rfl rfl (by decide) rfl
  have h5 : g_R xs L 74 4 [(0, Value.ref 0)] [Value.ref 1, Value.ref 1] (nM [.inl (5, g_df 5)]) (0 + 1) (0 + (g_cl 5).2.2) _ := g_R_cal (j_thr i_74_4 rfl) i_74_4 rfl hinv ⟨1000, hr⟩ h4
  rw [← n_M1] at h5
  have h6 : g_R xs L 74 0 [(0, Value.ref 0)] [] (1, fun _ => none) 0 0 _ := J_new n_T0 i_74_0 n_w9 rfl rfl (J_dup i_74_3 rfl h5)
  obtain ⟨k, hk⟩ := h6
  rw [n_y74]
  refine ⟨k, _, _, _, hk, ?_, ?_⟩
  · omega
  · omega
/-- from the entry, for every script of at most 260 ints, the law comes to its end with true -/
theorem whole_start {p : Program} {e : Env} {s : State} {m : MethodId} {below : List Frame} {meth : Method} {c : Code} (l : Launch) (hflags : l.flags = flags0) {b L : Nat} {xs : Nat → Int32} (hL : L ≤ 260) (C0 : lw_At p s m meth c b L xs) :
    W p l e room_1 s m #[Value.ref b] below meth c s.heap [] 0 0 (lw_Z below #[Value.ref b] s) (entryFrame m ([Value.ref b] : List Value).toArray 15) := by
  obtain ⟨k, M1, c1, d1, hk, hc, hd⟩ := law_all xs hL
  exact g_start l hflags C0 hk (Nat.le_trans hc (by decide +kernel)) (Nat.le_trans hd (by decide +kernel)) (by decide +kernel) (by decide +kernel)
