section GC
variable {p : Program} {l : Launch} {e : Env} {R : Room} {s : State} {m : MethodId} {args : Array Value} {below : List Frame} {meth : Method} {cc : Code} {Q : State → Prop}
/-- behind a call: it has returned, or thrown -/
theorem g_callG {H : Heap} {locs : List Loc} {cells slots mc ms : Nat} {A0 A1 : Nat → Prop} {pc : Nat} {ls : Array Slot} {st0 rest : List Value} {Qv : Option Value → State → Prop} {Xv : String → State → Prop}
    (hr : vx_Run p l e R s m args below meth cc H locs cells slots mc ms (F0 m pc ls st0) rest (fun st o t => (∃ v, o = .returned v ∧ Qv v t) ∧ va_F A1 st t) (fun E st t => Xv E t ∧ va_F A1 st t) A1) (hS : va_S A0 s.heap H locs) (hA : ∀ q, A1 q → A0 q)
    (kx : ∀ (E : String) (ce : Cell) (q9 : Addr) (t : State) (H1 : Heap) (locs1 : List Loc), t.heap = H1 → s.vm.Alike t.vm → Xv E t → va_S A0 s.heap H1 locs1 → H1[q9]? = some ce → ce.vm = .none → s.vm.findClass E = some ce.cls → vx_W p l e R s m args below meth cc H1 locs1 (cells + mc) (slots + ms) Q (F0 m pc ls rest) q9)
    (kk : ∀ (v : Option Value) (t : State) (H1 : Heap) (locs1 : List Loc), t.heap = H1 → s.vm.Alike t.vm → Qv v t → va_S A0 s.heap H1 locs1 → W p l e R s m args below meth cc H1 locs1 (cells + mc) (slots + ms) Q (F0 m (pc + 3) ls (v.toList ++ rest))) : W p l e R s m args below meth cc H locs cells slots Q (F0 m pc ls st0) := by
  intro T hT X
  rcases hr T hT X with ⟨v, st₀, t, T', L, h0, X', hL, e1, e2, ⟨⟨v2, hv, hb⟩, hF⟩, st⟩ | ⟨q, st₀, t, T', L, E, ce, h0, X', hL, e1, e2, ⟨hb, hF⟩, hce, hcv, hcl, st⟩
  · cases hv
    obtain ⟨k1, k2, k3⟩ := vx_keep h0 e1 hS (fun q _ h => hA q h) hA hL hF
    obtain ⟨t2, a1, b1⟩ := kk v t T'.heap (locs ++ L) e1.symm (by rw [← e2]; exact X'.warmed.alike) hb k3 T' rfl X'
    exact ⟨t2, st t2 a1, b1⟩
  · obtain ⟨k1, k2, k3⟩ := vx_keep h0 e1 hS (fun q _ h => hA q h) hA hL hF
    obtain ⟨t2, a1, b1⟩ := kx E ce q t T'.heap (locs ++ L) e1.symm (by rw [← e2]; exact X'.warmed.alike) hb k3 (by rw [e1]; exact hce) hcv hcl T' rfl X'
    exact ⟨t2, st.trans a1, b1⟩
end GC
theorem g_frees {D : va_G} {cA : Nat → ClassId} {A : Nat → Prop} {b : Nat} {s : State} {ρ : Nat → Nat} {M : gM} {H : Heap} {locs : List Loc} (hA : ∀ q, s.heap.size ≤ q → A q) (hR : g_RH D cA A b s ρ M H locs) : ∀ q, va_A (g_wd cA ρ M) H.size q → A q := fun q h => by
  obtain ⟨hP, hD, hS, -⟩ := hR
  rcases h with ⟨kk, ee, h⟩ | h
  · exact hD.2 kk (q, ee) h
  · exact hA q (Nat.le_trans hS.1 h)
theorem g_after {D : va_G} {cA : Nat → ClassId} {A : Nat → Prop} {b : Nat} {s t : State} {ρ ρ1 : Nat → Nat} {M M1 : gM} {H H1 : Heap} {locs locs1 : List Loc} (hA : ∀ q, s.heap.size ≤ q → A q) (hR : g_RH D cA A b s ρ M H locs) (hn : M.1 ≤ M1.1) (ht : t.heap = H1) (hal : s.vm.Alike t.vm) (hN : g_EN D cA b (va_A (g_wd cA ρ M) H.size) ρ1 M1 t) (hS1 : va_S A s.heap H1 locs1) : g_RH D cA A b s ρ1 M1 H1 locs1 := by
  obtain ⟨hP1, hD1, ⟨tys, hK1, hT1⟩, hWF1, h01⟩ := hN
  have hfr := g_frees hA hR
  obtain ⟨-, -, -, -, -, -, h1⟩ := hR
  exact ⟨by rw [← ht]; exact hP1, hD1.weaken (fun k q hk hq => hfr _ hq), hS1, ⟨tys, va_K.moved hal.symm hK1, hT1⟩, hWF1, h01, Nat.lt_of_lt_of_le h1 hn⟩
set_option maxHeartbeats 4000000 in
/-- THE MACHINE DOES WHAT THE PURE RUN ANSWERS -/
theorem g_run_ok (xs : Nat → Int32) (L : Nat) : ∀ k, g_OK xs L k
  | 0 => fun y pc lv st M c d r M1 c1 d1 h => by cases h
  | k + 1 => fun y pc lv st M c d r M1 c1 d1 h => by
    have ih := g_run_ok xs L k
    unfold g_run at h
    cases hT : gThr y pc with
    | some v =>
      rw [hT] at h
      dsimp only at h
      split at h
      · next hc =>
        cases h
        refine ⟨Nat.le_refl _, Nat.le_succ _, Nat.le_add_right _ _, fun p l e R s m args below meth cc Q D cA A b F hRc hRd n0 ρ0 Fin ρ H locs ls hn hag hR hl => ?_⟩
        exact Fin.2.1 v.1 ρ H locs ls pc v (st.map (g_tr ρ)) c d rfl hag hR (hl.1.trans F.2.2.1.symm) hT rfl rfl rfl (by rw [g_cats]; exact hc.1) hc.2.1 hc.2.2.1 hc.2.2.2
      · cases h
    | none =>
      rw [hT] at h
      dsimp only at h
      cases hI : gI y pc with
      | none => rw [hI] at h; cases h
      | some iv =>
        obtain ⟨i, n⟩ := iv
        rw [hI] at h
        dsimp only at h
        cases hr : g_ret y i st with
        | some v =>
          rw [hr] at h
          cases h
          exact ⟨Nat.le_refl _, Nat.le_refl _, Nat.le_refl _, fun p l e R s m args below meth cc Q D cA A b F hRc hRd n0 ρ0 Fin ρ H locs ls hn hag hR hl => Fin.1 v ρ H locs ls pc i n st rfl hag hR hI hr⟩
        | none =>
          rw [hr] at h
          dsimp only at h
          cases hv : g_inv y i st lv M with
          | none =>
            rw [hv] at h
            dsimp only at h
            cases hs : g_stp xs L y i pc lv st M c d with
            | none => rw [hs] at h; cases h
            | some q =>
              rw [hs] at h
              dsimp only at h
              split at h
              · next hm =>
                obtain ⟨a1, a2, a3, a4⟩ := ih _ _ _ _ _ _ _ _ _ _ _ h
                refine ⟨Nat.le_trans hm.1 a1, Nat.le_trans hm.2.1 a2, Nat.le_trans hm.2.2 a3, fun p l e R s m args below meth cc Q D cA A b F hRc hRd n0 ρ0 Fin ρ H locs ls hn hag hR hl => ?_⟩
                exact (g_stp_ok F hI hs).2.2.2 (Nat.le_trans a2 hRc) (Nat.le_trans a3 hRd) (fun ρ1 H1 locs1 ls1 hag1 hR1 hl1 => a4 p l e R s m args below meth cc Q D cA A b F hRc hRd n0 ρ0 Fin ρ1 H1 locs1 ls1 (Nat.le_trans hn hm.1) (hag.trans hn hag1) hR1 hl1) hR hl
              · cases h
          | some zv =>
            obtain ⟨z, as, rest⟩ := zv
            rw [hv] at h
            dsimp only at h
            cases hz : g_run xs L k z 0 (lv_args 0 as) [] M 0 0 with
            | none => rw [hz] at h; cases h
            | some o =>
              obtain ⟨r2, M2, mc, ms⟩ := o
              rw [hz] at h
              have b1 := (ih _ _ _ _ _ _ _ _ _ _ _ hz).1
              cases r2 with
              | inl v =>
                dsimp only at h
                obtain ⟨a1, a2, a3, a4⟩ := ih _ _ _ _ _ _ _ _ _ _ _ h
                refine ⟨Nat.le_trans b1 a1, Nat.le_trans (Nat.le_add_right _ _) a2, Nat.le_trans (Nat.le_add_right _ _) a3, fun p l e R s m args below meth cc Q D cA A b F hRc hRd n0 ρ0 Fin ρ H locs ls hn hag hR hl => ?_⟩
                obtain ⟨hlv, hrs, hrun⟩ := g_callrun ih F hI hv hz hR hl (Nat.le_trans a2 hRc) (Nat.le_trans a3 hRd) (args := args) (e := e) (below := below)
                have hA := F.2.2.2.2.2.2.2.2.2.1
                refine g_callG hrun hR.2.2.1 (g_frees hA hR) (fun E ce q9 t H1 locs1 ht hal hX hS1 hce hcv hcl => ?_) (fun v2 t H1 locs1 ht hal hV hS1 => ?_)
                · obtain ⟨ρ1, hx, -⟩ := hX
                  cases hx
                · obtain ⟨v0, ρ1, hx, rfl, hag1, hN⟩ := hV
                  cases hx
                  have k9 := a4 p l e R s m args below meth cc Q D cA A b F hRc hRd n0 ρ0 Fin ρ1 H1 locs1 ls (Nat.le_trans hn b1) (hag.trans hn hag1) (g_after hA hR b1 ht hal hN hS1) (by rw [g_trL_ag hag1 hlv]; exact hl)
                  rw [List.map_append, g_trs_ag hag1 hrs] at k9
                  cases v <;> exact k9
              | inr E =>
                dsimp only at h
                split at h
                · next hh hfd =>
                  obtain ⟨a1, a2, a3, a4⟩ := ih _ _ _ _ _ _ _ _ _ _ _ h
                  refine ⟨Nat.le_trans b1 (Nat.le_trans (Nat.le_succ _) a1), Nat.le_trans (Nat.le_add_right _ _) a2, Nat.le_trans (Nat.le_add_right _ _) a3, fun p l e R s m args below meth cc Q D cA A b F hRc hRd n0 ρ0 Fin ρ H locs ls hn hag hR hl => ?_⟩
                  obtain ⟨hlv, hrs, hrun⟩ := g_callrun ih F hI hv hz hR hl (Nat.le_trans a2 hRc) (Nat.le_trans a3 hRd) (args := args) (e := e) (below := below)
                  have hA := F.2.2.2.2.2.2.2.2.2.1
                  refine g_callG hrun hR.2.2.1 (g_frees hA hR) (fun E2 ce q9 t H1 locs1 ht hal hX hS1 hce hcv hcl => ?_) (fun v2 t H1 locs1 ht hal hV hS1 => ?_)
                  · obtain ⟨ρ1, hx, hag1, hN⟩ := hX
                    cases hx
                    obtain ⟨pre, x, suf, j, e1, e2, e3, e4, e5, e6, e7⟩ := g_find_some hfd
                    have hR1 := g_after hA hR b1 ht hal hN hS1
                    obtain ⟨hx0, hb0, hml0, hrt0, hlocks0, hnm0, hown0, hfr0, hlo0, hA0, htab0, hst0, ⟨hts0, hX0, hZ10, hZ20, hstr0, hAO0, hNc0⟩, hcA0⟩ := id F
                    obtain ⟨hP1, hD1, hSS1, ⟨tys1, hK1, hT1⟩, hWF1, h01, h11⟩ := id hR1
                    have hdk : g_wd cA (va_up ρ1 M2.1 q9) (M2.1 + 1, va_up M2.2 M2.1 none) = g_wd cA ρ1 M2 := g_dark hWF1 q9
                    have hag2 : g_ag M2.1 ρ1 (va_up ρ1 M2.1 q9) := g_ag.up
                    have hlk : (Cond.classLink (gOwn y) x.catchType E).before args s = true := g_w hts0 (gp_w_ok (g_look gv_ct e5))
                    have hcs : (Cond.castable E E).before args s = true := by
                      obtain ⟨u, hu, hu2⟩ := List.any_eq_true.mp e6
                      simp only [Bool.and_eq_true, beq_iff_eq] at hu2
                      have h9 := gp_w_ok (List.all_eq_true.mp gv_cast u hu)
                      rw [hu2.1, hu2.2] at h9
                      exact g_w hts0 h9
                    have hyl : y ≠ g_ylaw := fun h9 => by
                      rw [h9] at hfd
                      cases hfd
                    refine vx_catch hown0 pre x suf (by rw [htab0 hyl]; exact e1) (fun z hz => ?_) e2 e3 hlk hcs hce hcv hcl ?_
                    · rcases e7 z hz with h9 | ⟨h9, nm, j2, h10, h11⟩
                      · exact Or.inl h9
                      · exact Or.inr ⟨h9, nm, g_w hts0 (gp_w_ok (g_look gv_ct h10)), hNc0 _ h11⟩
                    · have k9 := a4 p l e R s m args below meth cc Q D cA A b F hRc hRd n0 ρ0 Fin (va_up ρ1 M2.1 q9) H1 locs1 ls (Nat.le_trans hn (Nat.le_trans b1 (Nat.le_succ _))) ((hag.trans hn hag1).trans (Nat.le_trans hn b1) hag2)
                        ⟨by rw [hdk]; exact hP1, by rw [hdk]; exact hD1, hSS1, ⟨tys1, hK1, by
                          have h9 := g_TY_new (more := []) hT1 (e := none) (fun t x hx => by cases hx)
                          rw [List.append_nil] at h9
                          exact h9⟩, g_WF_new hWF1 (fun e' he' => by cases he'), by rw [← h01]; exact hag2 0 h11, Nat.succ_pos _⟩
                        (by rw [g_trL_ag (hag1.trans b1 hag2) hlv]; exact hl)
                      have hq9 : va_up ρ1 M2.1 q9 M2.1 = q9 := by unfold va_up; rw [if_pos rfl]
                      rw [e4]
                      rw [← hq9]
                      rw [hq9]
                      have e99 : ([.ref M2.1] : List Value).map (g_tr (va_up ρ1 M2.1 q9)) = [.ref q9] := by
                        show [Value.ref (va_up ρ1 M2.1 q9 M2.1)] = _
                        rw [hq9]
                      rw [e99] at k9
                      exact k9
                  · obtain ⟨v0, ρ1, hx, -⟩ := hV
                    cases hx
                · next hfd =>
                  cases h
                  refine ⟨b1, Nat.le_add_right _ _, Nat.le_add_right _ _, fun p l e R s m args below meth cc Q D cA A b F hRc hRd n0 ρ0 Fin ρ H locs ls hn hag hR hl => ?_⟩
                  obtain ⟨hlv, hrs, hrun⟩ := g_callrun ih F hI hv hz hR hl hRc hRd (args := args) (e := e) (below := below)
                  have hA := F.2.2.2.2.2.2.2.2.2.1
                  refine g_callG hrun hR.2.2.1 (g_frees hA hR) (fun E2 ce q9 t H1 locs1 ht hal hX hS1 hce hcv hcl => ?_) (fun v2 t H1 locs1 ht hal hV hS1 => ?_)
                  · obtain ⟨ρ1, hx, hag1, hN⟩ := hX
                    cases hx
                    exact Fin.2.2 E ρ1 H1 locs1 ls pc ce q9 _ rfl (hag.trans hn hag1) (g_after hA hR b1 ht hal hN hS1) hfd hce hcv hcl
                  · obtain ⟨v0, ρ1, hx, -⟩ := hV
                    cases hx
                · cases h
