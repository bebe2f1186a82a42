def g_fl1 : List Cond := flatC (Jvm.Cond.and given_1 narrow_1)
def g_exs : List (String × Nat) := g_fl1.filterMap (fun w => match w with
  | .exactly (.string o j) c => if c = "java/lang/String" then some (o, j) else none
  | _ => none)
def gl_strs : List (String × Nat) := [("FlyTower", 32), ("FlyTower", 43), ("FlyTower", 62), ("FlyTower", 64), ("FlyTower", 66), ("FlyTower", 71), ("FlyTower", 82), ("FlyTower", 87), ("FlyTower", 146), ("FlyTower$Rig", 86), ("FlyTower", 331), ("FlyTower", 162), ("FlyTower", 189), ("FlyTower", 336), ("FlyTower", 171), ("FlyTower", 176), ("FlyTower", 178), ("FlyTower", 180), ("FlyTower$Rig", 91), ("FlyTower", 334), ("FlyTower", 235), ("FlyTower", 237), ("FlyTower$Cue", 31), ("FlyTower", 249), ("FlyTower", 277), ("FlyTower", 286), ("FlyTower", 292), ("FlyTower", 106), ("FlyTower", 108), ("FlyTower", 110), ("FlyTower", 115), ("FlyTower", 120), ("FlyTower", 126), ("FlyTower", 210), ("FlyTower", 215)]
set_option maxRecDepth 100000 in
theorem gl_strs_eq : g_exs = gl_strs := by decide +kernel
theorem gl_strs_ok {args : Array Value} {s : State} (hgv : (Jvm.Cond.and given_1 narrow_1).before args s = true) {q : String × Nat} (h : q ∈ gl_strs) : (Cond.exactly (.string q.1 q.2) "java/lang/String").before args s = true := by
  rw [← gl_strs_eq] at h
  obtain ⟨w, hw, h2⟩ := List.mem_filterMap.mp h
  split at h2
  · split at h2
    · next hc =>
      cases h2
      have h3 := flat_of_before _ hgv _ hw
      rw [hc] at h3
      exact h3
    · cases h2
  · cases h2
def gx_P (y : Nat) (v : String × Nat × Nat × Nat × String × Bool) : Bool := gl_strs.any (fun u => decide (u = (gOwn y, v.2.2.1))) && lw_tbl.any (fun w => match w with
  | .stringRef o k t => decide (o = gOwn y ∧ k = v.2.2.1 ∧ t = v.2.2.2.2.1)
  | _ => false)
set_option maxRecDepth 100000 in
theorem gx_T : (List.range gm_T.length).all (fun y => (gm_T.getD y []).all (fun e => gx_P y e.2)) = true := by decide +kernel
set_option maxRecDepth 100000 in
theorem gx_nc : g_nc.all (fun q => g_fl1.any (fun w => decide (w = .not (.castable q.1 q.2)))) = true := by decide +kernel
set_option maxRecDepth 100000 in
theorem gx_u : (g_fl1.any (fun w => decide (w = .isRef (.static Bundle.tN "UNASSIGNED_STACK" Bundle.steD))) && g_fl1.any (fun w => decide (w = .isRef (.static Bundle.tN "SUPPRESSED_SENTINEL" Bundle.listD)))) = true := by decide +kernel
set_option maxRecDepth 100000 in
theorem gx_l : (lw_tbl.any (fun w => decide (w = .laysStatic Bundle.tN "UNASSIGNED_STACK" Bundle.steD)) && (lw_tbl.any (fun w => decide (w = .laysStatic Bundle.tN "SUPPRESSED_SENTINEL" Bundle.listD)) && lw_tbl.any (fun w => decide (w = .initialized Bundle.tN)))) = true := by decide +kernel
set_option maxRecDepth 100000 in
theorem gx_ao : g_tys.all (fun ty => match ty with
  | .object C => lw_tbl.any (fun w => decide (w = .arrayOver (.object C)))
  | _ => true) = true := by decide +kernel
set_option maxRecDepth 100000 in
theorem gx_in : vwCl.all (fun q => lw_tbl.any (fun w => match w with
  | .instantiable C _ => decide (C = q.1)
  | _ => false)) = true := by decide +kernel
theorem g_any {P : Cond → Bool} {l : List Cond} {w : Cond} (h : l.any (fun w2 => decide (w2 = w)) = true) : w ∈ l := by
  obtain ⟨w2, hm, h2⟩ := List.any_eq_true.mp h
  cases of_decide_eq_true h2
  exact hm
theorem g_law_C : gC g_ylaw = code := rfl
theorem g_law_L : gLo g_ylaw = 15 := by decide +kernel
theorem g_law_R : gR g_ylaw = ret := rfl
theorem g_law_O : gOwn g_ylaw = R_law := by decide +kernel
theorem g_law_N : (gN g_ylaw).name = "<init>" → False := by decide +kernel
set_option maxHeartbeats 4000000 in
/-- FROM THE LAW'S ENTRY: what the pure run answers, the machine comes to -/
theorem g_start {p : Program} {e : Env} {s : State} {m : MethodId} {below : List Frame} {meth : Method} {c : Code} (l : Launch) (hflags : l.flags = flags0) {b L : Nat} {xs : Nat → Int32} (C0 : lw_At p s m meth c b L xs) {k : Nat} {M1 : gM} {c1 d1 : Nat}
    (h : g_run xs L k g_ylaw 0 [(0, .ref 0)] [] (1, fun _ => none) 0 0 = some (.inl (some (.int 1)), M1, c1, d1)) (hc : c1 ≤ room_1.cells) (hd : d1 ≤ room_1.slots) (hf : gF g_ylaw ≤ room_1.frames) (hw : gW g_ylaw ≤ room_1.locals) :
    W p l e room_1 s m #[Value.ref b] below meth c s.heap [] 0 0 (lw_Z below #[Value.ref b] s) (entryFrame m ([Value.ref b] : List Value).toArray 15) := by
  obtain ⟨hx, hb, hr, hml, hown, hts, hX, hbl, hlocks, hgv⟩ := C0
  have hd0 := Drawn.sameBut.refl s.drawn lw_cs
  refine W.base ?_
  have hflat := flat_of_before _ hgv
  have hWr : s.WarmedH (s.setDrawn s.drawn).vm := State.WarmedH.refl s
  have hal := hWr.alike
  have hA : ∀ q : Nat, s.heap.size ≤ q → (fun q : Nat => s.heap.size ≤ q) q := fun _ h => h
  have hnA : ∀ a : Nat, a < s.heap.size → ¬ (fun q : Nat => s.heap.size ≤ q) a := fun a ha h => absurd ha (Nat.not_lt.mpr h)
  have gl := gx_l
  simp only [Bool.and_eq_true] at gl
  obtain ⟨l1, l2, l3⟩ := gl
  have gu := gx_u
  simp only [Bool.and_eq_true] at gu
  have hEX : g_EX (fun q : Nat => s.heap.size ≤ q) b L xs s := by
    refine ⟨fun w hw hg => g_gw_moved (State.WarmedH.refl s) hg (hts w hw), ⟨hX, hbl, hnA b hbl⟩, vx_Zqof (hts _ (g_any (P := fun _ => true) l1)) (hts _ (g_any (P := fun _ => true) l3)) (hflat _ (g_any (P := fun _ => true) gu.1)) hnA, vx_Zqof (hts _ (g_any (P := fun _ => true) l2)) (hts _ (g_any (P := fun _ => true) l3)) (hflat _ (g_any (P := fun _ => true) gu.2)) hnA, fun y pc v hv => ?_, fun t C hC => ?_, fun q hq => ?_⟩
    · have h1 := g_look (P := fun y _ v => gx_P y v) gx_T hv
      unfold gx_P at h1
      simp only [Bool.and_eq_true] at h1
      obtain ⟨h1, h2⟩ := h1
      obtain ⟨u, hu, h3⟩ := List.any_eq_true.mp h1
      have h3 := of_decide_eq_true h3
      obtain ⟨w, hw2, h4⟩ := List.any_eq_true.mp h2
      split at h4
      · next o k2 t2 =>
        obtain ⟨e1, e2, e3⟩ := of_decide_eq_true h4
        have hex := gl_strs_ok hgv hu
        rw [h3] at hex
        obtain ⟨a, c9, cA9, kA9, q1, -⟩ := Cond.exactly_spec (args := #[Value.ref b]) (first := s) (o := none) (s := s) (idx := []) (t := .string (gOwn y) v.2.2.1) (cls := "java/lang/String") hex
        have hsr := hts _ hw2
        rw [e1, e2, e3] at hsr
        exact ⟨a, vk_R.same (u := s) rfl (vk_R.of hsr q1 |> fun z => ⟨(by simpa [Cond.before, Cond.holds, Cond.value] using z.1), z.2⟩)⟩
      · cases h4
    · have h1 := List.all_eq_true.mp gx_ao _ (List.mem_of_getElem? hC)
      exact va_AO.of (hts _ (g_any (P := fun _ => true) h1))
    · have h1 := List.all_eq_true.mp gx_nc q hq
      exact va_Nc.of (hflat _ (g_any (P := fun _ => true) h1))
  have hEX2 : g_EX (fun q : Nat => s.heap.size ≤ q) b L xs (s.setDrawn s.drawn) := g_EX_mv (s := s) (U := s.setDrawn s.drawn) hWr (fun _ _ _ => rfl) (Nat.le_refl _) (fun _ h => h) hEX
  have hDx : ∀ ci : Nat, ∃ q : ClassId × (Nat → Nat), ∀ v, vwCl[ci]? = some v → u_Kn (s.setDrawn s.drawn) v.1 v.2.1 v.2.2 q.1 q.2 := fun ci => by
    cases hv : vwCl[ci]? with
    | none => exact ⟨(default, fun _ => 0), fun v h => by cases h⟩
    | some v =>
      have hci : ci < vwCl.length := (List.getElem?_eq_some_iff.mp hv).1
      obtain ⟨w, hw2, h2⟩ := List.any_eq_true.mp (List.all_eq_true.mp gx_in v (List.mem_of_getElem? hv))
      split at h2
      · next C n =>
        have hC := of_decide_eq_true h2
        subst hC
        cases (g_cl_at hci).symm.trans hv
        have hok := (g_cl_ok hci).1
        obtain ⟨cC, iS, hk⟩ := u_known (args := #[Value.ref b]) (ws := u_ws (g_cl ci).1 (g_cl ci).2.1 (g_cl ci).2.2) (s := s.setDrawn s.drawn) (fun w hw => g_gw_moved hWr (hok w hw).2 (hts w (hok w hw).1)) (fun w h => h) (g_gw_moved (args' := #[Value.ref b]) hWr rfl (hts _ hw2))
        exact ⟨(cC, iS), fun v' h => by cases h; exact hk⟩
      · cases h2
  have hK : va_K (fun ci => (Classical.choose (hDx ci)).1, fun ci => (Classical.choose (hDx ci)).2) vwCl [] (s.setDrawn s.drawn) := ⟨fun ci v hv => Classical.choose_spec (hDx ci) v hv, fun k q hk => by cases hk⟩
  generalize ((fun ci => (Classical.choose (hDx ci)).1, fun ci => (Classical.choose (hDx ci)).2) : va_G) = D at hK
  obtain ⟨cA, hcA⟩ : ∃ cA : Nat → ClassId, ∀ (t : Nat) (ty : FieldType) (c0 : ClassId), g_tys[t]? = some ty → va_RA (s.setDrawn s.drawn) c0 ty → c0 = cA t := ⟨fun t => ((s.setDrawn s.drawn).vm.findClass ("[" ++ ((g_tys[t]?).getD .int).toString)).getD default, fun t ty c0 ht h => by
    have h1 : (s.setDrawn s.drawn).vm.findClass ("[" ++ ty.toString) = some c0 := by
      cases ty with
      | object C => obtain ⟨-, -, -, -, -, h4⟩ := h; exact h4
      | _ => exact h
    simp only [ht, Option.getD_some, h1]⟩
  have F : g_FX p l room_1 (s.setDrawn s.drawn) m meth c D cA (fun q : Nat => s.heap.size ≤ q) b L xs g_ylaw :=
    ⟨hx, by rw [g_law_C]; exact hb, by rw [g_law_L]; exact hml, by rw [g_law_R]; exact hr, hlocks, fun h9 => (g_law_N h9).elim, by rw [g_law_O]; exact hown, hf, hw, hA, fun h9 => absurd rfl h9, by unfold Launch.stackTraces; rw [hflags]; decide, hEX2, hcA⟩
  have hw0 : g_wd cA (fun _ => b) (1, fun _ => none) = [] := rfl
  have hP0 : va_P D vwCl (g_wd cA (fun _ => b) (1, fun _ => none)) s.heap := by
    rw [hw0]
    intro k q hk
    cases hk
  have hD0 : va_D (fun q : Nat => s.heap.size ≤ q) (g_wd cA (fun _ => b) (1, fun _ => none)) := by
    rw [hw0]
    exact ⟨fun i j p q hi _ _ => (by cases hi), fun k q hk => (by cases hk)⟩
  have hRH : g_RH D cA (fun q : Nat => s.heap.size ≤ q) b (s.setDrawn s.drawn) (fun _ => b) (1, fun _ => none) s.heap [] :=
    ⟨hP0, hD0, va_S.rf, ⟨[], hK, fun k t x hk hx => (by cases hx)⟩, fun k hk e he => (by cases he), rfl, Nat.one_pos⟩
  have hls := lv_entry ([.ref b] : List Value) (n := 15) (Nat.le_of_ble_eq_true rfl)
  rw [lg_entry_eq]
  refine (g_run_ok xs L k g_ylaw 0 [(0, .ref 0)] [] (1, fun _ => none) 0 0 (.inl (some (.int 1))) M1 c1 d1 h).2.2.2 p l e room_1 (s.setDrawn s.drawn) m _ below meth c (lw_Z below #[Value.ref b] s) D cA (fun q : Nat => s.heap.size ≤ q) b F hc hd 1 (fun _ => b) ⟨?_, ?_, ?_⟩ (fun _ => b) s.heap [] _ (Nat.le_refl _) g_ag.rf hRH (by rw [g_law_L]; exact hls)
  · intro v ρ1 H1 locs1 ls1 pc1 i n st1 hv hag hR hI hret
    cases hv
    have hd3 := (gI_ok hI).2
    rw [g_law_C] at hd3
    cases i with
    | ireturn =>
      simp only [g_ret] at hret
      split at hret
      · split at hret
        · split at hret
          · cases hret
            refine va_forget (fun q hq => hR.2.2.1.2.2 q hq) ?_
            refine W.widen hc hd ?_
            exact lw_ret hd0 hx hb hr hlocks (hd3 (Nat.succ_ne_zero _))
          · cases hret
        · cases hret
      · cases hret
    | lreturn =>
      simp only [g_ret] at hret
      split at hret
      · split at hret <;> cases hret
      · cases hret
    | dreturn =>
      simp only [g_ret] at hret
      split at hret
      · split at hret <;> cases hret
      · cases hret
    | areturn =>
      simp only [g_ret] at hret
      split at hret
      · split at hret
        · split at hret <;> cases hret
        · cases hret
      · split at hret
        · split at hret <;> cases hret
        · cases hret
      · cases hret
    | return_ =>
      simp only [g_ret] at hret
      split at hret
      · split at hret <;> cases hret
      · cases hret
    | _ => cases hret
  · intro E ρ1 H1 locs1 ls1 pc1 v st1 c2 d2 hr9
    cases hr9
  · intro E ρ1 H1 locs1 ls1 pc1 ce q st1 hr9
    cases hr9
