theorem g_find_none {y pc : Nat} {E : String} : ∀ {hh : List (Nat × Nat × Nat × Nat)}, g_find y pc E hh = some none → ∀ x ∈ tableOf hh, covers x pc = false
  | [], _, x, hx => by cases hx
  | q :: t, h, x, hx => by
    unfold g_find at h
    split at h
    · split at h
      · cases h
      · split at h
        · split at h
          · cases h
          · split at h
            · split at h
              · cases h
              · next hq => exact absurd h hq
            · cases h
        · cases h
    · next hc =>
      rcases List.mem_cons.mp hx with rfl | hx
      · show (decide (q.1 ≤ pc) && decide (pc < q.2.1)) = false
        by_cases h1 : q.1 ≤ pc
        · by_cases h2 : pc < q.2.1
          · exact absurd ⟨h1, h2⟩ hc
          · rw [decide_eq_false h2, Bool.and_false]
        · rw [decide_eq_false h1, Bool.false_and]
      · exact g_find_none h x hx
theorem g_find_some {y pc h0 : Nat} {E : String} : ∀ {hh : List (Nat × Nat × Nat × Nat)}, g_find y pc E hh = some (some h0) → ∃ (pre : List ExceptionTableEntry) (x : ExceptionTableEntry) (suf : List ExceptionTableEntry) (j : Nat), tableOf hh = pre ++ x :: suf ∧ covers x pc = true ∧ x.catchType ≠ 0 ∧ x.handlerPc = h0 ∧ (gc_ct.getD (gK y) []).lookup x.catchType = some (E, j) ∧ g_cast.any (fun u => u.1 == E && u.2.1 == E) = true ∧ ∀ z ∈ pre, covers z pc = false ∨ (z.catchType ≠ 0 ∧ ∃ (nm : String) (j2 : Nat), (gc_ct.getD (gK y) []).lookup z.catchType = some (nm, j2) ∧ (E, nm) ∈ g_nc)
  | [], h => by cases h
  | q :: t, h => by
    unfold g_find at h
    split at h
    · next hc =>
      split at h
      · cases h
      · next h0 =>
        split at h
        · next v hv =>
          split at h
          · next hE =>
            cases h
            refine ⟨[], ⟨q.1, q.2.1, q.2.2.1, q.2.2.2⟩, tableOf t, v.2, rfl, ?_, h0, rfl, ?_, hE.2, fun z hz => by cases hz⟩
            · show (decide (q.1 ≤ pc) && decide (pc < q.2.1)) = true
              rw [decide_eq_true hc.1, decide_eq_true hc.2]; rfl
            · show (gc_ct.getD (gK y) []).lookup q.2.2.2 = some (E, v.2)
              rw [hv, ← hE.1]
          · split at h
            · next hn =>
              split at h
              · cases h
              · obtain ⟨pre, x, suf, j, e1, e2, e3, e4, e5, e6, e7⟩ := g_find_some h
                refine ⟨⟨q.1, q.2.1, q.2.2.1, q.2.2.2⟩ :: pre, x, suf, j, ?_, e2, e3, e4, e5, e6, fun z hz => ?_⟩
                · show _ :: tableOf t = _
                  rw [e1]; rfl
                · rcases List.mem_cons.mp hz with rfl | hz
                  · refine Or.inr ⟨h0, v.1, v.2, hv, ?_⟩
                    obtain ⟨u, hu, hu2⟩ := List.any_eq_true.mp hn
                    simp only [Bool.and_eq_true, beq_iff_eq] at hu2
                    rw [← hu2.1, ← hu2.2]
                    exact hu
                  · exact e7 z hz
            · cases h
        · cases h
    · next hc =>
      obtain ⟨pre, x, suf, j, e1, e2, e3, e4, e5, e6, e7⟩ := g_find_some h
      refine ⟨⟨q.1, q.2.1, q.2.2.1, q.2.2.2⟩ :: pre, x, suf, j, ?_, e2, e3, e4, e5, e6, fun z hz => ?_⟩
      · show _ :: tableOf t = _
        rw [e1]; rfl
      · rcases List.mem_cons.mp hz with rfl | hz
        · refine Or.inl ?_
          show (decide (q.1 ≤ pc) && decide (pc < q.2.1)) = false
          by_cases h1 : q.1 ≤ pc
          · by_cases h2 : pc < q.2.1
            · exact absurd ⟨h1, h2⟩ hc
            · rw [decide_eq_false h2, Bool.and_false]
          · rw [decide_eq_false h1, Bool.false_and]
        · exact e7 z hz
theorem g_EX_mv {A A1 : Nat → Prop} {b L : Nat} {xs : Nat → Int32} {s U : State} (hW : s.WarmedH U.vm) (hq : ∀ q : Nat, q < s.heap.size → ¬ A q → U.heap[q]? = s.heap[q]?) (hsz : s.heap.size ≤ U.heap.size) (hAA : ∀ q, A1 q → A q) (h : g_EX A b L xs s) : g_EX A1 b L xs U := by
  obtain ⟨h1, ⟨⟨scr, x1, x2, x3, x4, x5⟩, h3, h4⟩, h5, h6, h7, h8, h9⟩ := h
  have hal := hW.alike
  exact ⟨fun w hw hg => g_gw_moved hW hg (h1 w hw hg), ⟨⟨scr, by rw [hq b h3 h4]; exact x1, State.isArrayOf_alike hal x2, x3, x4, x5⟩, Nat.lt_of_lt_of_le h3 hsz, fun z => h4 (hAA b z)⟩, vx_Zq.narrow (vx_Zq.kept (vx_Zq.moved hal h5) hq) hAA, vx_Zq.narrow (vx_Zq.kept (vx_Zq.moved hal h6) hq) hAA, fun y pc v hv => (h7 y pc v hv).imp (fun sa h => vk_R.warm hW h), fun t C hC => va_AO.moved hal (h8 t C hC), fun q hq => va_Nc.moved hal (h9 q hq)⟩
def g_cAok (cA : Nat → ClassId) (U : State) : Prop := ∀ (t : Nat) (ty : FieldType) (c0 : ClassId), g_tys[t]? = some ty → va_RA U c0 ty → c0 = cA t
def g_Pc (D : va_G) (cA : Nat → ClassId) (b L : Nat) (xs : Nat → Int32) (sz : Nat) (ρ : Nat → Nat) (M : gM) (as : List Value) : Array Value → State → Prop := va_Pc (as.map (g_tr ρ)) (fun U => U.heap.size = sz ∧ va_P D vwCl (g_wd cA ρ M) U.heap ∧ va_D (fun _ => True) (g_wd cA ρ M) ∧ (∃ tys, va_K D vwCl tys U ∧ g_TY cA tys M) ∧ g_EX (va_A (g_wd cA ρ M) sz) b L xs U ∧ g_cAok cA U)
def g_EN (D : va_G) (cA : Nat → ClassId) (b : Nat) (fr : Nat → Prop) (ρ1 : Nat → Nat) (M1 : gM) (t : State) : Prop := va_P D vwCl (g_wd cA ρ1 M1) t.heap ∧ va_D fr (g_wd cA ρ1 M1) ∧ (∃ tys, va_K D vwCl tys t ∧ g_TY cA tys M1) ∧ g_WF M1 ∧ ρ1 0 = b
def g_Qv (D : va_G) (cA : Nat → ClassId) (b : Nat) (fr : Nat → Prop) (n0 : Nat) (ρ : Nat → Nat) (r : Option Value ⊕ String) (M1 : gM) (v : Option Value) (t : State) : Prop := ∃ (v0 : Option Value) (ρ1 : Nat → Nat), r = .inl v0 ∧ v = v0.map (g_tr ρ1) ∧ g_ag n0 ρ ρ1 ∧ g_EN D cA b fr ρ1 M1 t
def g_Xv (D : va_G) (cA : Nat → ClassId) (b : Nat) (fr : Nat → Prop) (n0 : Nat) (ρ : Nat → Nat) (r : Option Value ⊕ String) (M1 : gM) (E : String) (t : State) : Prop := ∃ ρ1 : Nat → Nat, r = .inr E ∧ g_ag n0 ρ ρ1 ∧ g_EN D cA b fr ρ1 M1 t
def g_Qc (fr : Nat → Prop) (Qv : Option Value → State → Prop) : Array Value → State → Outcome → State → Prop := fun _ st o t => (∃ v, o = .returned v ∧ Qv v t) ∧ va_F fr st t
def g_Xc (fr : Nat → Prop) (Xv : String → State → Prop) : String → State → State → Prop := fun E st t => Xv E t ∧ va_F fr st t
theorem g_blind {D : va_G} {cA : Nat → ClassId} {b L : Nat} {xs : Nat → Int32} {sz : Nat} {ρ : Nat → Nat} {M : gM} {as : List Value} : FrameBlind (g_Pc D cA b L xs sz ρ M as) := fun a U g mk q => by
  obtain ⟨q0, q1, qP, qD, ⟨tys, qK, qT⟩, qE, qc⟩ := q
  exact ⟨q0, q1, qP, qD, ⟨tys, va_K.moved (u := U) (U := U.calling g mk a) (Vm.Alike.refl U.vm) qK, qT⟩, g_EX_mv (s := U) (U := U.calling g mk a) (State.WarmedH.refl U) (fun _ _ _ => rfl) (Nat.le_refl _) (fun _ h => h) qE, fun t ty c0 h1 h2 => qc t ty c0 h1 (va_RA.moved (u := U.calling g mk a) (U := U) (Vm.Alike.refl U.vm) h2)⟩
theorem g_sl_tr (ρ : Nat → Nat) : ∀ l : List Value, (lg_sl (l.map (g_tr ρ))).length = (lg_sl l).length
  | [] => rfl
  | v :: l => by
    have ih := g_sl_tr ρ l
    simp only [lg_sl, List.map_cons, List.flatMap_cons, List.length_append, g_tr_cat] at ih ⊢
    rw [ih]
    by_cases h : v.category = 2 <;> simp [h]
theorem g_args_tr (ρ : Nat → Nat) : ∀ (l : List Value) (i : Nat), lv_args i (l.map (g_tr ρ)) = g_trL ρ (lv_args i l)
  | [], _ => rfl
  | v :: l, i => by
    simp only [List.map_cons, lv_args, g_trL, g_tr_cat]
    rw [g_args_tr ρ l]
    rfl
def g_word (z : Nat) : Cond := if gm_hw.getD z false then .codeWith (gN z) (gC z) (gLo z) (gR z) (gH z) else .code (gN z) (gC z) (gLo z) (gR z)
/-- a frame's end -/
def g_Fin (p : Program) (l : Launch) (e : Env) (R : Room) (s : State) (m : MethodId) (args : Array Value) (below : List Frame) (meth : Method) (cc : Code) (Q : State → Prop) (D : va_G) (cA : Nat → ClassId) (A : Nat → Prop) (b y n0 : Nat) (ρ0 : Nat → Nat) (r : Option Value ⊕ String) (M1 : gM) (c1 d1 : Nat) : Prop :=
  (∀ (v : Option Value) (ρ1 : Nat → Nat) (H1 : Heap) (locs1 : List Loc) (ls1 : Array Slot) (pc1 : Nat) (i : Instr) (n : Nat) (st1 : List Value), r = .inl v → g_ag n0 ρ0 ρ1 → g_RH D cA A b s ρ1 M1 H1 locs1 → gI y pc1 = some (i, n) → g_ret y i st1 = some v → W p l e R s m args below meth cc H1 locs1 c1 d1 Q (F0 m pc1 ls1 (st1.map (g_tr ρ1)))) ∧
  (∀ (E : String) (ρ1 : Nat → Nat) (H1 : Heap) (locs1 : List Loc) (ls1 : Array Slot) (pc1 : Nat) (v : String × Nat × Nat × Nat × String × Bool) (st1 : List Value) (c2 d2 : Nat), r = .inr E → g_ag n0 ρ0 ρ1 → g_RH D cA A b s ρ1 M1 H1 locs1 → ls1.size = cc.maxLocals → gThr y pc1 = some v → v.1 = E → c2 + 1 = c1 → d2 + 6 = d1 → (st1.map fun v => v.category).sum ≤ 8 → 6 ≤ gF y → 98 ≤ gW y → gH y = [] → W p l e R s m args below meth cc H1 locs1 c2 d2 Q (F0 m pc1 ls1 st1)) ∧
  (∀ (E : String) (ρ1 : Nat → Nat) (H1 : Heap) (locs1 : List Loc) (ls1 : Array Slot) (pc1 : Nat) (ce : Cell) (q : Addr) (st1 : List Value), r = .inr E → g_ag n0 ρ0 ρ1 → g_RH D cA A b s ρ1 M1 H1 locs1 → g_find y pc1 E (gH y) = some none → H1[q]? = some ce → ce.vm = .none → s.vm.findClass E = some ce.cls → vx_W p l e R s m args below meth cc H1 locs1 c1 d1 Q (F0 m pc1 ls1 st1) q)
def g_OK (xs : Nat → Int32) (L k : Nat) : Prop := ∀ (y pc : Nat) (lv : gL) (st : List Value) (M : gM) (c d : Nat) (r : Option Value ⊕ String) (M1 : gM) (c1 d1 : Nat), g_run xs L k y pc lv st M c d = some (r, M1, c1, d1) → M.1 ≤ M1.1 ∧ c ≤ c1 ∧ d ≤ d1 ∧
  ∀ (p : Program) (l : Launch) (e : Env) (R : Room) (s : State) (m : MethodId) (args : Array Value) (below : List Frame) (meth : Method) (cc : Code) (Q : State → Prop) (D : va_G) (cA : Nat → ClassId) (A : Nat → Prop) (b : Nat), g_FX p l R s m meth cc D cA A b L xs y → c1 ≤ R.cells → d1 ≤ R.slots → ∀ (n0 : Nat) (ρ0 : Nat → Nat), g_Fin p l e R s m args below meth cc Q D cA A b y n0 ρ0 r M1 c1 d1 → ∀ (ρ : Nat → Nat) (H : Heap) (locs : List Loc) (ls : Array Slot), n0 ≤ M.1 → g_ag n0 ρ0 ρ → g_RH D cA A b s ρ M H locs → lv_has ls (gLo y) (g_trL ρ lv) → W p l e R s m args below meth cc H locs c d Q (F0 m pc ls (st.map (g_tr ρ)))
