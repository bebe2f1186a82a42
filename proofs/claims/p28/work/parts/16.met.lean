theorem g_isRef_i {ty : FieldType} (h : g_isRef ty = true) : (∃ n, ty = .object n) ∨ ∃ t, ty = .array t := by
  cases ty <;> first | exact Or.inl ⟨_, rfl⟩ | exact Or.inr ⟨_, rfl⟩ | cases h
theorem g_P_kept {D : va_G} {cl : List vw_C} {ws : va_W} {H H1 : Heap} (h : va_P D cl ws H) (hk : ∀ q : Nat, q < H.size → H1[q]? = H[q]?) : va_P D cl ws H1 :=
  fun k q hq => (h k q hq).kept (hk q.1 (h k q hq).lt)
set_option maxHeartbeats 2000000 in
theorem g_fin {xs : Nat → Int32} {L : Nat} {p : Program} {l : Launch} {e : Env} {R : Room} {s : State} {m : MethodId} {args : Array Value} {below : List Frame} {meth : Method} {cc : Code} {D : va_G} {cA : Nat → ClassId} {A : Nat → Prop} {b y : Nat} (F : g_FX p l R s m meth cc D cA A b L xs y) {n0 : Nat} {ρ0 : Nat → Nat} {r : Option Value ⊕ String} {M1 : gM} {c1 d1 : Nat} (hRc : R.cells = c1) (hRs : R.slots = d1) (hyl : y ≠ g_ylaw) :
    g_Fin p l e R s m args below meth cc (vx_MQ below (g_Qc A (g_Qv D cA b A n0 ρ0 r M1)) (g_Xc A (g_Xv D cA b A n0 ρ0 r M1)) args s c1 d1 A) D cA A b y n0 ρ0 r M1 c1 d1 := by
  obtain ⟨hx, hb, hml, hrt, hlocks, hnm, hown, hfr, hlo, hA, htab, hst, hE, hcA⟩ := F
  refine ⟨?_, ?_, ?_⟩
  · intro v ρ1 H1 locs1 ls1 pc1 i n st1 hr hag hR hI hret
    obtain ⟨hP, hD, hS, ⟨tys, hK, hT⟩, hWF, h0, h1⟩ := id hR
    have hd := (gI_ok hI).2
    have hq : ∀ t : State, t.heap = H1 → s.WarmedH t.vm → g_Qc A (g_Qv D cA b A n0 ρ0 r M1) args s (.returned (v.map (g_tr ρ1))) t := fun t ht hW => ⟨⟨_, rfl, v, ρ1, hr, rfl, hag, by rw [ht]; exact hP, hD, ⟨tys, va_K.moved hW.alike hK, hT⟩, hWF, h0⟩, hS.F ht⟩
    cases i with
    | ireturn =>
      simp only [g_ret] at hret
      split at hret
      · split at hret
        · next ty hty =>
          split at hret
          · next hn => cases hret; exact vx_ret (W.zret hx hb (hrt.trans hty) hn hq hS.2.2 (hd (Nat.succ_ne_zero _)) hlocks)
          · cases hret
        · cases hret
      · cases hret
    | lreturn =>
      simp only [g_ret] at hret
      split at hret
      · split at hret
        · next hty => cases hret; exact vx_ret (W.lret hx hb (hrt.trans hty) hq hS.2.2 (hd (Nat.succ_ne_zero _)) hlocks)
        · cases hret
      · cases hret
    | dreturn =>
      simp only [g_ret] at hret
      split at hret
      · split at hret
        · next hty => cases hret; exact vx_ret (W.dret hx hb (hrt.trans hty) hq hS.2.2 (hd (Nat.succ_ne_zero _)) hlocks)
        · cases hret
      · cases hret
    | areturn =>
      simp only [g_ret] at hret
      split at hret
      · split at hret
        · next ty hty =>
          split at hret
          · next hn => cases hret; exact vx_ret (W.aret hx hb (hrt.trans hty) (g_isRef_i hn) (Or.inr ⟨_, rfl⟩) hq hS.2.2 (hd (Nat.succ_ne_zero _)) hlocks)
          · cases hret
        · cases hret
      · split at hret
        · next ty hty =>
          split at hret
          · next hn => cases hret; exact vx_ret (W.aret hx hb (hrt.trans hty) (g_isRef_i hn) (Or.inl rfl) hq hS.2.2 (hd (Nat.succ_ne_zero _)) hlocks)
          · cases hret
        · cases hret
      · cases hret
    | return_ =>
      simp only [g_ret] at hret
      split at hret
      · split at hret
        · next hty => cases hret; exact vx_ret (W.vret hx hb (hrt.trans hty) hq hS.2.2 (hd (Nat.succ_ne_zero _)) hlocks)
        · cases hret
      · cases hret
    | _ => cases hret
  · intro E ρ1 H1 locs1 ls1 pc1 v st1 c2 d2 hr hag hR hsize hT0 hvE hc2 hd2 hst1 hf6 hw98 hH
    obtain ⟨hP, hD, hS, ⟨tys, hK, hT⟩, hWF, h0, h1⟩ := id hR
    obtain ⟨hts, hX, hZ1, hZ2, hstr, hAO, hNc⟩ := hE
    obtain ⟨E1, ik, is, ic, tx, wide⟩ := v
    cases hvE
    have hw := g_look gv_T hT0
    simp only [gp_T, Bool.and_eq_true, decide_eq_true_eq, List.all_cons] at hw
    obtain ⟨⟨wk, wi, wat⟩, hfit, hfits, g0, g3, g4⟩ := hw
    have hin : ∀ w : Cond, (gt_ws.any (fun w2 => decide (w2 = w)) = true ∧ g_gw w = true) → w ∈ lw_tbl ∧ g_gw w = true := fun w h => by
      obtain ⟨w2, hm, h2⟩ := List.any_eq_true.mp h.1
      cases of_decide_eq_true h2
      exact ⟨gt_ws_in hm, h.2⟩
    have hbe : ∀ w : Cond, (w ∈ lw_tbl ∧ g_gw w = true) → w.before args s = true := fun w h => g_gw_moved (State.WarmedH.refl s) h.2 (hts w h.1 h.2)
    have wk := hin _ wk
    have wi := hin _ wi
    have wat : ∀ w ∈ vx_atS (gOwn y) ic E1 gt_nm, w ∈ lw_tbl ∧ g_gw w = true := fun w hw => hin w (by
      have := List.all_eq_true.mp wat w hw
      simpa only [Bool.and_eq_true] using this)
    obtain ⟨sa, hsa⟩ := hstr y pc1 _ hT0
    have hgood : ∀ w ∈ Cond.classLink (gOwn y) ik E1 :: Cond.initialized E1 :: vx_atS (gOwn y) ic E1 gt_nm, vx_ot w = true := fun w hw => by
      rcases List.mem_cons.mp hw with rfl | hw
      · exact g_gw_ot wk.2
      · rcases List.mem_cons.mp hw with rfl | hw
        · exact g_gw_ot wi.2
        · exact g_gw_ot (wat w hw).2
    have hout : ∀ (q : Nat), ∀ x ∈ cc.exceptionTable.toList, covers x q = false := fun q x hx => by rw [htab hyl, hH] at hx; cases hx
    have hxx : ∀ t : State, s.vm.Alike t.vm → H1.size ≤ t.heap.size → (∀ q : Nat, q < H1.size → t.heap[q]? = H1[q]?) → g_Xc A (g_Xv D cA b A n0 ρ0 r M1) E1 s t := fun t hal hsz hk =>
      ⟨⟨ρ1, hr, hag, g_P_kept hP hk, hD, ⟨tys, va_K.moved hal hK, hT⟩, hWF, h0⟩, ⟨Nat.le_trans hS.1 hsz, fun q hq hnA => by rw [hk q (Nat.lt_of_lt_of_le hq hS.1)]; exact hS.2.1 q hq hnA⟩⟩
    have hlocs : (st1.map fun v => v.category).sum + (13 * (gt_nm.length + 1) + 43) ≤ R.locals := Nat.le_trans (Nat.add_le_add_right hst1 _) (Nat.le_trans (show 8 + (13 * (gt_nm.length + 1) + 43) ≤ 98 from Nat.le_of_ble_eq_true rfl) (Nat.le_trans hw98 hlo))
    have hframes : gt_nm.length + 3 < R.frames := Nat.lt_of_lt_of_le (show gt_nm.length + 3 < 6 from Nat.le_of_ble_eq_true rfl) (Nat.le_trans hf6 hfr)
    by_cases hwide : wide = true
    · rw [if_pos hwide] at g4
      simp only [Bool.and_eq_true, decide_eq_true_eq] at g4
      exact vx_throwSW hx hb hst hown hfit (fun n hn => List.all_eq_true.mp hfits n hn) (hbe _ wk) (hbe _ wi) hsa (fun w hw => hbe w (wat w hw)) hgood hZ1 hZ2 hS hsize (gI_ok g0).1 (gI_ok g3).1 (gI_ok g4.1).1 (gI_ok g4.2.1).1 (gI_ok g4.2.2).1 (hout _) hframes hlocs (by omega) (by omega) hlocks hxx hS.2.2 (by omega) (by omega)
    · rw [if_neg hwide] at g4
      simp only [Bool.and_eq_true, decide_eq_true_eq] at g4
      exact vx_throwS hx hb hst hown hfit (fun n hn => List.all_eq_true.mp hfits n hn) (hbe _ wk) (hbe _ wi) hsa (fun w hw => hbe w (wat w hw)) hgood hZ1 hZ2 hS hsize (gI_ok g0).1 (gI_ok g3).1 (gI_ok g4.1).1 (gI_ok g4.2.1).1 (gI_ok g4.2.2).1 (hout _) hframes hlocs (by omega) (by omega) hlocks hxx hS.2.2 (by omega) (by omega)
  · intro E ρ1 H1 locs1 ls1 pc1 ce q st1 hr hag hR hf hce hcv hcl
    obtain ⟨hP, hD, hS, ⟨tys, hK, hT⟩, hWF, h0, h1⟩ := id hR
    exact vx_out (by rw [htab hyl]; exact g_find_none hf) hlocks hce hcv hcl (fun t ht hal => ⟨⟨ρ1, hr, hag, by rw [ht]; exact hP, hD, ⟨tys, va_K.moved hal hK, hT⟩, hWF, h0⟩, hS.F ht⟩) hS.2.2 (Nat.le_refl _) (Nat.le_refl _)
/-- a method's contract, out of its run -/
theorem g_met {xs : Nat → Int32} {L k : Nat} (hk : g_OK xs L k) {l : Launch} {D : va_G} {cA : Nat → ClassId} {b : Nat} {sz : Nat} {ρ : Nat → Nat} {M M1 : gM} {as : List Value} {z : Nat} {r : Option Value ⊕ String} {mc ms : Nat} (h : g_run xs L k z 0 (lv_args 0 as) [] M 0 0 = some (r, M1, mc, ms)) (hz : z < gm_CI.length) (hzl : z ≠ g_ylaw) (hlen : (lg_sl as).length ≤ gLo z) (hWF : g_WF M) (h0 : ρ 0 = b) (h1 : 0 < M.1) (hl : l.stackTraces = false) :
    vx_Met l (gN z) [g_word z] { frames := gF z, cells := mc, slots := ms, locals := gW z } (g_Pc D cA b L xs sz ρ M as) (g_Qc (va_A (g_wd cA ρ M) sz) (g_Qv D cA b (va_A (g_wd cA ρ M) sz) M.1 ρ r M1)) (g_Xc (va_A (g_wd cA ρ M) sz) (g_Xv D cA b (va_A (g_wd cA ρ M) sz) M.1 ρ r M1)) mc ms (va_A (g_wd cA ρ M) sz) := by
  have hme := gv_me hz
  simp only [gp_me, Bool.and_eq_true, Bool.or_eq_true, decide_eq_true_eq] at hme
  obtain ⟨hme1, hme2, hme3, hme4, hme5, hme6⟩ := hme
  have body : ∀ (p : Program) (e : Env) (s : State) (m : MethodId) (args : Array Value) (below : List Frame) (meth : Method) (c : Code), p.tables.exec = Jvm.exec → c.code = gC z → meth.sig.returnType = gR z → meth.locks = false → meth.name = (gN z).name → s.vm.findClass (gN z).cls = some m.cls → c.maxLocals = gLo z → c.exceptionTable.toList = tableOf (gH z) → g_Pc D cA b L xs sz ρ M as args s →
      W p l e { frames := gF z, cells := mc, slots := ms, locals := gW z } s m args below meth c s.heap [] 0 0 (vx_MQ below (g_Qc (va_A (g_wd cA ρ M) sz) (g_Qv D cA b (va_A (g_wd cA ρ M) sz) M.1 ρ r M1)) (g_Xc (va_A (g_wd cA ρ M) sz) (g_Xv D cA b (va_A (g_wd cA ρ M) sz) M.1 ρ r M1)) args s mc ms (va_A (g_wd cA ρ M) sz)) (entryFrame m args (gLo z)) := by
    intro p e s m args below meth c hx hb hr hlocks hnm hown hml htab hv
    obtain ⟨rfl, hsz, hP, hD0, ⟨tys, hK, hT⟩, hE, hc⟩ := hv
    subst hsz
    have hD := hD0.self (sz := s.heap.size)
    have hlen2 : (lg_sl (as.map (g_tr ρ))).length ≤ gLo z := by rw [g_sl_tr]; exact hlen
    have hls := lv_entry (as.map (g_tr ρ)) (n := gLo z) hlen2
    rw [lg_entry_eq]
    rw [g_args_tr] at hls
    have F : g_FX p l { frames := gF z, cells := mc, slots := ms, locals := gW z } s m meth c D cA (va_A (g_wd cA ρ M) s.heap.size) b L xs z :=
      ⟨hx, hb, hml, hr, hlocks, fun h9 => hnm.trans h9, by rw [← hme3]; exact hown, Nat.le_refl _, Nat.le_refl _, fun q hq => Or.inr hq, fun _ => htab, hl, hE, hc⟩
    exact (hk z 0 (lv_args 0 as) [] M 0 0 r M1 mc ms h).2.2.2 p l e _ s m _ below meth c _ D cA _ b F (Nat.le_refl _) (Nat.le_refl _) M.1 ρ (g_fin F rfl rfl hzl) ρ s.heap [] _ (Nat.le_refl _) g_ag.rf ⟨hP, hD, va_S.rf, ⟨tys, hK, hT⟩, hWF, h0, h1⟩ hls
  rcases hme1 with hme1 | hme1
  · exact absurd hme1 hzl
  · cases hhw : gm_hw.getD z false with
    | false =>
      have hw0 : g_word z = .code (gN z) (gC z) (gLo z) (gR z) := by unfold g_word; rw [hhw]; rfl
      rw [hw0]
      have hH : gH z = [] := by
        rcases hme6 with h6 | h6
        · rw [hhw] at h6; cases h6
        · exact h6
      refine vx_ofW (cc := gC z) (maxL := gLo z) (ret := gR z) (ws' := []) hme5 rfl ?_
      intro p e s m args below meth c s₁ B hml htb hv
      exact body p e s m args below meth c B.exec B.bytes B.returns B.notSynchronized (name_of_methodNamed B.named B.method).1 (findClass_of_methodNamed B.named) hml (by
        rw [hH]
        cases ht : c.exceptionTable.toList with
        | nil => rfl
        | cons x t => exact (htb x (by rw [ht]; exact List.mem_cons_self)).elim) hv
    | true =>
      have hw0 : g_word z = .codeWith (gN z) (gC z) (gLo z) (gR z) (gH z) := by unfold g_word; rw [hhw]; rfl
      rw [hw0]
      refine vx_ofWH (cc := gC z) (maxL := gLo z) (ret := gR z) (hh := gH z) (ws' := []) hme5 rfl ?_
      intro p e s m args below meth c s₁ B hml hv
      exact body p e s m args below meth c B.exec B.bytes B.returns B.notSynchronized (name_of_methodNamed B.named B.method).1 (findClass_of_methodNamed B.named) hml (vx_table (x := gN z) (y := gN z) B (atoms_spec (ws := [Cond.codeWith (gN z) (gC z) (gLo z) (gR z) (gH z)]) B.pre _ List.mem_cons_self)) hv
