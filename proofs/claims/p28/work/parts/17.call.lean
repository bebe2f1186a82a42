theorem g_ivx_0 {i : Instr} {ix : Nat} (h : g_ivx i = some (0, ix)) : i = .invokestatic ix := by
  cases i <;> first | (cases h; rfl) | cases h
theorem g_ivx_1 {i : Instr} {ix : Nat} (h : g_ivx i = some (1, ix)) : i = .invokevirtual ix := by
  cases i <;> first | (cases h; rfl) | cases h
theorem g_ivx_2 {i : Instr} {ix : Nat} (h : g_ivx i = some (2, ix)) : i = .invokespecial ix := by
  cases i <;> first | (cases h; rfl) | cases h
theorem g_inv_stack {st : List Value} {na : Nat} (ρ : Nat → Nat) : st.map (g_tr ρ) = (((st.take na).reverse).map (g_tr ρ)).reverse ++ (st.drop na).map (g_tr ρ) := by
  rw [← List.map_reverse, List.reverse_reverse, ← List.map_append, List.take_append_drop]
theorem g_all_drop {st : List Value} {na n : Nat} (h : st.all (g_ok n) = true) : (st.drop na).all (g_ok n) = true :=
  List.all_eq_true.mpr fun v hv => List.all_eq_true.mp h v (List.mem_of_mem_drop hv)
set_option maxHeartbeats 4000000 in
theorem g_callrun {xs : Nat → Int32} {L k : Nat} (hk : g_OK xs L k) {p : Program} {l : Launch} {e : Env} {R : Room} {s : State} {m : MethodId} {args : Array Value} {below : List Frame} {meth : Method} {cc : Code} {D : va_G} {cA : Nat → ClassId} {A : Nat → Prop} {b y : Nat} (F : g_FX p l R s m meth cc D cA A b L xs y) {i : Instr} {n pc : Nat} {lv : gL} {st : List Value} {M : gM} {c d : Nat} {ρ : Nat → Nat} {H : Heap} {locs : List Loc} {ls : Array Slot} {z : Nat} {as rest : List Value} {r : Option Value ⊕ String} {M1 : gM} {mc ms : Nat}
    (hI : gI y pc = some (i, n)) (hv : g_inv y i st lv M = some (z, as, rest)) (hz : g_run xs L k z 0 (lv_args 0 as) [] M 0 0 = some (r, M1, mc, ms)) (hR : g_RH D cA A b s ρ M H locs) (hl : lv_has ls (gLo y) (g_trL ρ lv)) (hc : c + mc ≤ R.cells) (hd : d + ms ≤ R.slots) :
    lv.all (fun q => g_ok M.1 q.2) = true ∧ rest.all (g_ok M.1) = true ∧ vx_Run p l e R s m args below meth cc H locs c d mc ms (F0 m pc ls (st.map (g_tr ρ))) (rest.map (g_tr ρ)) (fun st o t => (∃ v, o = .returned v ∧ g_Qv D cA b (va_A (g_wd cA ρ M) H.size) M.1 ρ r M1 v t) ∧ va_F (va_A (g_wd cA ρ M) H.size) st t) (fun E st t => g_Xv D cA b (va_A (g_wd cA ρ M) H.size) M.1 ρ r M1 E t ∧ va_F (va_A (g_wd cA ρ M) H.size) st t) (va_A (g_wd cA ρ M) H.size) := by
  obtain ⟨hx, hb, hml, hrt, hlocks, hnm, hown, hfr, hlo, hA, htab, hst, hE, hcA⟩ := F
  obtain ⟨hts, hE2⟩ := id hE
  obtain ⟨hP, hD, hS, ⟨tys, hK, hT⟩, hWF, h0, h1⟩ := id hR
  have hd3 := (gI_ok hI).2
  unfold g_inv at hv
  split at hv
  · cases hv
  · next md ix hix =>
    split at hv
    · cases hv
    · next z' na kd ci rs hf =>
      obtain ⟨j, j1, j2, j3, host⟩ := rs
      split at hv
      · next hc0 =>
        obtain ⟨hkd, hzl, hna, hFr, hLo, hhw, hlvok, hstok⟩ := hc0
        have hw := g_look gv_iv hf
        have e0 : ¬ kd = 100 := by omega
        have e1 : ¬ kd = 101 := by omega
        have e2 : ¬ kd = 102 := by omega
        have e3 : ¬ kd = 103 := by omega
        have e5 : ¬ kd = 107 := by omega
        simp only [gp_iv, if_neg e0, if_neg e1, if_neg e2, if_neg e3, if_neg e5, Bool.and_eq_true, decide_eq_true_eq] at hw
        obtain ⟨hzlt, hsig, hlk, hkind⟩ := hw
        have hme := gv_me hzlt
        simp only [gp_me, Bool.and_eq_true, Bool.or_eq_true, decide_eq_true_eq] at hme
        obtain ⟨hme1, hme2, hme3, hme4, hme5, hme6⟩ := hme
        have hcw : lw_tbl[gm_wc.getD z' 0]? = some (g_word z') ∧ g_gw (g_word z') = true := by
          rcases hme1 with hme1 | hme1
          · exact absurd hme1 hzl
          · exact gp_w_ok hme1
        have hcode : (g_word z').before args s = true := g_w hts hcw
        have hini : (Cond.initialized (gN z').cls).before args s = true := g_w hts (gp_w_ok hme2)
        have hws : ∀ w ∈ [g_word z'], ∀ (a' : Array Value) (U : State), s.WarmedH U.vm → w.before a' U = true := fun w hw a' U hW => by
          cases List.mem_singleton.mp hw
          exact g_gw_moved hW hcw.2 hcode
        have hsg : ∀ sig, parseMethodDescriptor (gN z').desc = some sig → na = sig.parameters.length := fun sig h => by
          rw [h] at hsig
          exact (Option.some.inj hsig).symm
        have hfree : ∀ q, va_A (g_wd cA ρ M) H.size q → A q := fun q h => by
          rcases h with ⟨kk, ee, h⟩ | h
          · exact hD.2 kk (q, ee) h
          · exact hA q (Nat.le_trans hS.1 h)
        have hpre : ∀ (as' : List Value) (U : State), U.heap = H → s.WarmedH U.vm → g_Pc D cA b L xs H.size ρ M as' (as'.map (g_tr ρ)).toArray U := fun as' U hU hW =>
          ⟨rfl, by rw [hU], by rw [hU]; exact hP, hD.weaken (fun _ _ _ _ => trivial), ⟨tys, va_K.moved hW.alike hK, hT⟩, g_EX_mv hW (fun q hq hnA => by rw [hU]; exact hS.2.1 q hq hnA) (by rw [hU]; exact hS.1) hfree hE, fun t ty c0 h1 h2 => hcA t ty c0 h1 (va_RA.moved hW.alike.symm h2)⟩
        have hfr2 : gF z' + 1 ≤ R.frames := Nat.le_trans hFr hfr
        have hlo2 : 8 + (gLo z' + 11) + gW z' ≤ R.locals := Nat.le_trans hLo hlo
        have hlen : (((st.take na).reverse).map (g_tr ρ)).length = na := by rw [List.length_map, List.length_reverse, List.length_take, Nat.min_eq_left hna]
        have hml2 : ls.size = gLo y := hl.1
        split at hv
        · next hmd =>
          split at hv
          · next hs =>
            cases hv
            obtain ⟨hk3, hsl, hcat⟩ := hs
            refine ⟨hlvok, g_all_drop hstok, ?_⟩
            subst hmd
            cases g_ivx_0 hix
            have hdg := hd3 (Nat.succ_ne_zero _)
            have met := g_met hk (sz := H.size) (D := D) (cA := cA) (ρ := ρ) hz hzlt hzl hsl hWF h0 h1 hst
            rw [if_pos hk3] at hkind
            simp only [Bool.and_eq_true, decide_eq_true_eq] at hkind
            have hstatic : (Cond.static (gN z)).before args s = true := g_w hts (gp_w_ok hkind.1)
            have hW8 := lv_room (pc := pc) (m := m) (ls := ls) (rest := st.map (g_tr ρ)) (st := (st.drop na).map (g_tr ρ)) (by rw [g_cats]; exact hcat)
            rcases hk3 with rfl | rfl | rfl
            · have hw0 : g_word z = .code (gN z) (gC z) (gLo z) (gR z) := by unfold g_word; rw [hhw]; rfl
              rw [hw0] at met hcode hws
              cases host with
              | some hh => cases hkind.2
              | none => exact vx_runS (Ts := []) ⟨hx, hb, hml, hown, fun _ h => by cases h⟩ met ⟨⟨rfl, rfl, hfr2, hlo2, hws, List.mem_singleton.mpr rfl, hcode, hini, hme4, hsg, g_w hts (gp_w_ok hlk)⟩, hstatic⟩ ⟨g_blind, hpre _⟩ rfl hlen hml2 (g_inv_stack ρ) hW8 hdg ⟨hc, hd⟩
            · have hw0 : g_word z = .code (gN z) (gC z) (gLo z) (gR z) := by unfold g_word; rw [hhw]; rfl
              rw [hw0] at met hcode hws
              cases host with
              | none => cases hkind.2
              | some hh => exact vx_runSN (Ts := []) ⟨hx, hb, hml, hown, fun _ h => by cases h⟩ met ⟨⟨⟨rfl, rfl, hfr2, hlo2, hws, List.mem_singleton.mpr rfl⟩, hcode, hini, hme4, hsg, g_w hts (gp_w_ok hlk)⟩, hstatic, trivial⟩ ⟨g_blind, hpre _⟩ rfl hlen hml2 (g_inv_stack ρ) hW8 hdg ⟨hc, hd⟩
            · have hw0 : g_word z = .codeWith (gN z) (gC z) (gLo z) (gR z) (gH z) := by unfold g_word; rw [hhw]; rfl
              rw [hw0] at met hcode hws
              cases host with
              | some hh => cases hkind.2
              | none => exact vx_runSX (Ts := []) ⟨hx, hb, hml, hown, fun _ h => by cases h⟩ met ⟨⟨rfl, rfl, hfr2, hlo2, hws, List.mem_singleton.mpr rfl⟩, hcode, hini, hme4, hsg, g_w hts (gp_w_ok hlk), hstatic⟩ ⟨g_blind, hpre _⟩ rfl hlen hml2 (g_inv_stack ρ) hW8 hdg ⟨hc, hd⟩
          · cases hv
        · next hmd =>
          split at hv
          · next a rest' hdrop =>
            split at hv
            · next hs =>
              cases hv
              obtain ⟨hsl, hcat, hs⟩ := hs
              have hrok : rest.all (g_ok M.1) = true := by
                have h9 := g_all_drop (na := na) hstok
                rw [hdrop] at h9
                simp only [List.all_cons, Bool.and_eq_true] at h9
                exact h9.2
              refine ⟨hlvok, hrok, ?_⟩
              have met := g_met hk (sz := H.size) (D := D) (cA := cA) (ρ := ρ) hz hzlt hzl hsl hWF h0 h1 hst
              have hstk : st.map (g_tr ρ) = (((st.take na).reverse).map (g_tr ρ)).reverse ++ .ref (ρ a) :: rest.map (g_tr ρ) := by
                have h9 := g_inv_stack (st := st) (na := na) ρ
                rw [hdrop] at h9
                exact h9
              have hW8 := lv_room (pc := pc) (m := m) (ls := ls) (rest := st.map (g_tr ρ)) (st := rest.map (g_tr ρ)) (by rw [g_cats]; exact hcat)
              rcases hs with ⟨hm1, hk1, hrc⟩ | ⟨hm2, hk2⟩
              · subst hm1
                cases g_ivx_1 hix
                have hdg := hd3 (Nat.succ_ne_zero _)
                have hk3 : ¬ (kd = 0 ∨ kd = 3 ∨ kd = 6) := by omega
                have hk6 : ¬ kd = 6 := by omega
                rw [if_neg hk3, if_pos hk1] at hkind
                simp only [Bool.and_eq_true, decide_eq_true_eq] at hkind
                obtain ⟨w1, w2, hho, hci, hcn⟩ := hkind
                have hw0 : g_word z = .code (gN z) (gC z) (gLo z) (gR z) := by unfold g_word; rw [hhw, decide_eq_false hk6]; rfl
                rw [hw0] at met hcode hws
                have hrecv : ∃ cell : Cell, H[ρ a]? = some cell ∧ cell.vm.isStatics = false ∧ s.vm.findClass (gN z).cls = some cell.cls := by
                  unfold g_rcv at hrc
                  split at hrc
                  · next cj fs he =>
                    cases of_decide_eq_true hrc
                    obtain ⟨ha, he⟩ := g_rd_i he
                    obtain ⟨q0, hq, -⟩ := g_at (cA := cA) (ρ := ρ) ha he
                    rw [← hcn]
                    exact va_recv hK hP (g_cl_at hci) hq
                  · cases hrc
                rcases hk1 with rfl | rfl
                · cases host with
                  | some hh => cases hho
                  | none => exact vx_runV (Ts := []) ⟨hx, hb, hml, hown, fun _ h => by cases h⟩ met ⟨⟨rfl, rfl, hfr2, hlo2, hws, List.mem_singleton.mpr rfl, hcode, hini, hme4, hsg, g_w hts (gp_w_ok hlk)⟩, g_w hts (gp_w_ok w1), g_w hts (gp_w_ok w2)⟩ ⟨g_blind, hrecv, hpre (.ref a :: (st.take na).reverse)⟩ rfl hlen hml2 hstk hW8 hdg ⟨hc, hd⟩
                · cases host with
                  | none => cases hho
                  | some hh => exact vx_runVN (Ts := []) ⟨hx, hb, hml, hown, fun _ h => by cases h⟩ met ⟨⟨⟨rfl, rfl, hfr2, hlo2, hws, List.mem_singleton.mpr rfl⟩, hcode, hini, hme4, hsg, g_w hts (gp_w_ok hlk)⟩, g_w hts (gp_w_ok w1), g_w hts (gp_w_ok w2)⟩ ⟨g_blind, hrecv, hpre (.ref a :: (st.take na).reverse)⟩ rfl hlen hml2 hstk hW8 hdg ⟨hc, hd⟩
              · subst hm2
                cases g_ivx_2 hix
                have hdg := hd3 (Nat.succ_ne_zero _)
                have hk3 : ¬ (kd = 0 ∨ kd = 3 ∨ kd = 6) := by omega
                have hk4 : ¬ (kd = 1 ∨ kd = 4) := by omega
                have hk6 : ¬ kd = 6 := by omega
                rw [if_neg hk3, if_neg hk4, if_pos hk2] at hkind
                simp only [Bool.and_eq_true, decide_eq_true_eq] at hkind
                obtain ⟨w1, hho, hin, hrn⟩ := hkind
                have hw0 : g_word z = .code (gN z) (gC z) (gLo z) none := by unfold g_word; rw [hhw, decide_eq_false hk6, hrn]; rfl
                rw [hw0] at met hcode hws
                rcases hk2 with rfl | rfl
                · cases host with
                  | some hh => cases hho
                  | none => exact vx_runI (Ts := []) ⟨hx, hb, hml, hown, fun _ h => by cases h⟩ met ⟨⟨rfl, rfl, hfr2, hlo2, hws, List.mem_singleton.mpr rfl, hcode, hini, hme4, hsg, g_w hts (gp_w_ok hlk)⟩, hin, g_w hts (gp_w_ok w1)⟩ ⟨g_blind, hpre (.ref a :: (st.take na).reverse)⟩ rfl hlen hml2 hstk hW8 hdg ⟨hc, hd⟩
                · cases host with
                  | none => cases hho
                  | some hh => exact vx_runIN (Ts := []) ⟨hx, hb, hml, hown, fun _ h => by cases h⟩ met ⟨⟨⟨rfl, rfl, hfr2, hlo2, hws, List.mem_singleton.mpr rfl⟩, hcode, hini, hme4, hsg, g_w hts (gp_w_ok hlk)⟩, hin, g_w hts (gp_w_ok w1)⟩ ⟨g_blind, hpre (.ref a :: (st.take na).reverse)⟩ rfl hlen hml2 hstk hW8 hdg ⟨hc, hd⟩
            · cases hv
          · cases hv
      · cases hv
