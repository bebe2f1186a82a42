abbrev sOut : Type := ((Option sV ⊕ String) ⊕ (sL × List sV)) × sM × Nat × Nat
abbrev sMac : Type := Nat → Nat → sI → sL → List sV → sM → Nat → Nat → Option (Nat × sL × List sV × sM)
noncomputable def s_rcv (m : sM) (a ci : Nat) : Bool := match s_rd m a with
  | some (.inl (cj, _)) => decide (cj = ci)
  | _ => false
def s_sl (l : List sV) : Nat := (l.map (fun v => if s_cat v = 2 then 2 else 1)).sum
theorem s_sl_ok (ε : Nat → Int32) : ∀ l : List sV, (lg_sl (s_S ε l)).length = s_sl l
  | [] => rfl
  | v :: l => by
    have ih := s_sl_ok ε l
    simp only [lg_sl, s_S, s_sl, List.map_cons, List.flatMap_cons, List.length_append, List.sum_cons, s_cat_ok] at ih ⊢
    rw [ih]
    by_cases h : s_cat v = 2 <;> simp [h]
theorem s_rcv_ok {ε : Nat → Int32} {m : sM} (hm : s_wf m) {a ci : Nat} (h : s_rcv m a ci = true) : g_rcv (s_M ε m) a ci = true := by
  unfold s_rcv at h
  split at h
  · next cj fs he =>
    unfold g_rcv
    rw [s_rd_ok hm, he]
    exact h
  · cases h
noncomputable def s_invx (y md ix : Nat) (st : List sV) (lv : sL) (m : sM) : Option (Nat × List sV × List sV) :=
  match s_iv y ix with
    | none => none
    | some (z, na, kd, ci, _) =>
      if kd < 100 ∧ z ≠ g_ylaw ∧ na ≤ st.length ∧ s_F z + 1 ≤ s_F y ∧ 8 + (s_lo z + 11) + s_W z ≤ s_W y ∧ (s_hw z = decide (kd = 6)) ∧ s_al lv (fun q => s_ok m.1 q.2) = true ∧ s_al st (s_ok m.1) = true then
        (if md = 0 then (if (kd = 0 ∨ kd = 3 ∨ kd = 6) ∧ s_sl (st.take na).reverse ≤ s_lo z ∧ ((st.drop na).map s_cat).sum ≤ 8 then some (z, (st.take na).reverse, st.drop na) else none)
        else match st.drop na with
          | .inl (.ref a) :: rest =>
            if s_sl (.inl (.ref a) :: (st.take na).reverse) ≤ s_lo z ∧ (rest.map s_cat).sum ≤ 8 ∧ ((md = 1 ∧ (kd = 1 ∨ kd = 4) ∧ s_rcv m a ci = true) ∨ (md = 2 ∧ (kd = 2 ∨ kd = 5))) then some (z, .inl (.ref a) :: (st.take na).reverse, rest) else none
          | _ => none)
      else none
noncomputable def s_inv (y : Nat) (i : Instr) (st : List sV) (lv : sL) (m : sM) : Option (Nat × List sV × List sV) :=
  match g_ivx i with
  | none => none
  | some (md, ix) => s_invx y md ix st lv m
theorem s_inv_ok {ε : Nat → Int32} {y : Nat} {i : Instr} {st : List sV} {lv : sL} {m : sM} (hm : s_wf m) {z : Nat} {as rest : List sV} (h : s_inv y i st lv m = some (z, as, rest)) : g_inv y i (s_S ε st) (s_Lv ε lv) (s_M ε m) = some (z, s_S ε as, s_S ε rest) := by
  have ht : ∀ n, (s_S ε st).take n = s_S ε (st.take n) := fun n => by simp only [s_S, List.map_take]
  have hd : ∀ n, (s_S ε st).drop n = s_S ε (st.drop n) := fun n => by simp only [s_S, List.map_drop]
  have hr : ∀ l : List sV, (s_S ε l).reverse = s_S ε l.reverse := fun l => by simp only [s_S, List.map_reverse]
  have hl : (s_S ε st).length = st.length := by simp only [s_S, List.length_map]
  unfold s_inv s_invx at h
  simp only [s_iv_eq, s_F_eq, s_W_eq, s_lo_eq, s_hw_eq, s_al_eq] at h
  unfold g_inv
  split at h
  · cases h
  · next md ix hx =>
    rw [hx]
    dsimp only
    split at h
    · cases h
    · next z' na kd ci rs hf =>
      rw [hf]
      dsimp only
      split at h
      · next hc =>
        rw [if_pos ⟨hc.1, hc.2.1, by rw [hl]; exact hc.2.2.1, hc.2.2.2.1, hc.2.2.2.2.1, hc.2.2.2.2.2.1, by rw [← hc.2.2.2.2.2.2.1]; exact s_allL_ok ε m.1 lv, by rw [← hc.2.2.2.2.2.2.2]; exact s_all_ok ε m.1 st⟩]
        split at h
        · next hmd =>
          rw [if_pos hmd]
          split at h
          · next hs =>
            cases h
            rw [ht, hd, hr, s_sl_ok, s_cats_ok, if_pos hs]
          · cases h
        · next hmd =>
          rw [if_neg hmd]
          split at h
          · next a rest' hdr =>
            split at h
            · next hs =>
              cases h
              have e1 : (s_S ε st).drop na = Value.ref a :: s_S ε rest := by rw [hd, hdr]; rfl
              have e2 : Value.ref a :: ((s_S ε st).take na).reverse = s_S ε (.inl (.ref a) :: (st.take na).reverse) := by rw [ht, hr]; rfl
              rw [e1]
              dsimp only
              rw [e2, s_sl_ok, s_cats_ok]
              refine if_pos ⟨hs.1, hs.2.1, ?_⟩
              rcases hs.2.2 with h1 | h1
              · exact Or.inl ⟨h1.1, h1.2.1, s_rcv_ok hm h1.2.2⟩
              · exact Or.inr h1
            · cases h
          · cases h
      · cases h
noncomputable def s_infx (y ix : Nat) (st : List sV) (lv : sL) (m : sM) : Option (Nat × List sV × List sV) := match gIf y ix with
    | some (fi, _) => match st with
      | .inl (.ref a) :: rest => if s_rcv m a (g_if fi).1 = true ∧ (g_if fi).2.1 ≠ g_ylaw ∧ s_F (g_if fi).2.1 + 1 ≤ s_F y ∧ 8 + (s_lo (g_if fi).2.1 + 11) + s_W (g_if fi).2.1 ≤ s_W y ∧ 1 ≤ s_lo (g_if fi).2.1 ∧ (rest.map s_cat).sum ≤ 8 ∧ s_al lv (fun q => s_ok m.1 q.2) = true ∧ s_al st (s_ok m.1) = true then some ((g_if fi).2.1, [.inl (.ref a)], rest) else none
      | _ => none
    | none => none
noncomputable def s_inf (y : Nat) (i : Instr) (st : List sV) (lv : sL) (m : sM) : Option (Nat × List sV × List sV) := match i with
  | .invokeinterface ix _ => s_infx y ix st lv m
  | _ => none
theorem s_inf_ok {ε : Nat → Int32} {y : Nat} {i : Instr} {st : List sV} {lv : sL} {m : sM} (hm : s_wf m) {z : Nat} {as rest : List sV} (h : s_inf y i st lv m = some (z, as, rest)) : g_inv y i (s_S ε st) (s_Lv ε lv) (s_M ε m) = none ∧ g_inf y i (s_S ε st) (s_Lv ε lv) (s_M ε m) = some (z, s_S ε as, s_S ε rest) := by
  unfold s_inf at h
  split at h
  · next ix cnt =>
    refine ⟨rfl, ?_⟩
    unfold s_infx at h
    simp only [s_F_eq, s_W_eq, s_lo_eq, s_al_eq] at h
    split at h
    · next fi jj hf =>
      split at h
      · next a rest' =>
        split at h
        · next hc =>
          cases h
          unfold g_inf
          dsimp only
          rw [hf]
          have e1 : s_S ε (.inl (.ref a) :: rest) = Value.ref a :: s_S ε rest := rfl
          rw [e1]
          dsimp only
          rw [s_cats_ok]
          exact if_pos ⟨s_rcv_ok hm hc.1, hc.2.1, hc.2.2.1, hc.2.2.2.1, hc.2.2.2.2.1, hc.2.2.2.2.2.1, by rw [← hc.2.2.2.2.2.2.1]; exact s_allL_ok ε m.1 lv, by rw [← hc.2.2.2.2.2.2.2]; exact s_all_ok ε m.1 (.inl (.ref a) :: rest)⟩
        · cases h
      · cases h
    · cases h
  · cases h
noncomputable def s_cal (y : Nat) (i : Instr) (st : List sV) (lv : sL) (m : sM) : Option (Nat × List sV × List sV × Nat) := match s_inv y i st lv m with
  | some (z, as, rest) => some (z, as, rest, 3)
  | none => match s_inf y i st lv m with
    | some (z, as, rest) => some (z, as, rest, 5)
    | none => none
theorem s_cal_ok {ε : Nat → Int32} {y : Nat} {i : Instr} {st : List sV} {lv : sL} {m : sM} (hm : s_wf m) {z nn : Nat} {as rest : List sV} (h : s_cal y i st lv m = some (z, as, rest, nn)) : g_cal y i (s_S ε st) (s_Lv ε lv) (s_M ε m) = some (z, s_S ε as, s_S ε rest, nn) := by
  unfold s_cal at h
  unfold g_cal
  split at h
  · next z1 as1 rest1 h1 =>
    cases h
    rw [s_inv_ok hm h1]
  · split at h
    · next z1 as1 rest1 h1 =>
      cases h
      obtain ⟨e1, e2⟩ := s_inf_ok (ε := ε) hm h1
      rw [e1, e2]
    · cases h
noncomputable def s_nocx (y ix : Nat) : Bool := match s_iv y ix with
  | none => true
  | some q => Nat.ble 100 q.2.2.1
noncomputable def s_nocal (y : Nat) (i : Instr) : Bool := match i with
  | .invokestatic ix => s_nocx y ix
  | .invokevirtual ix => s_nocx y ix
  | .invokespecial ix => s_nocx y ix
  | .invokeinterface _ _ => false
  | _ => true
theorem s_noiv {y ix md : Nat} {i : Instr} {st : List Value} {lv : gL} {M : gM} (hi : g_ivx i = some (md, ix)) (h : s_nocx y ix = true) : g_inv y i st lv M = none := by
  unfold s_nocx at h
  rw [s_iv_eq] at h
  unfold g_inv
  rw [hi]
  dsimp only
  split at h
  · next hf => rw [hf]
  · next q hf =>
    obtain ⟨z, na, kd, ci, j, j1, j2, j3, host⟩ := q
    rw [hf]
    dsimp only
    have := Nat.le_of_ble_eq_true h
    dsimp only at this
    exact if_neg (fun q => by omega)
theorem s_nocal_ok {y : Nat} {i : Instr} (h : s_nocal y i = true) (st : List Value) (lv : gL) (M : gM) : g_cal y i st lv M = none := by
  have key : g_inv y i st lv M = none ∧ g_inf y i st lv M = none := by
    cases i with
    | invokestatic ix => exact ⟨s_noiv (md := 0) rfl h, rfl⟩
    | invokevirtual ix => exact ⟨s_noiv (md := 1) rfl h, rfl⟩
    | invokespecial ix => exact ⟨s_noiv (md := 2) rfl h, rfl⟩
    | invokeinterface ix n => cases h
    | _ => exact ⟨rfl, rfl⟩
  unfold g_cal
  rw [key.1, key.2]
noncomputable def s_calx (y md ix : Nat) (st : List sV) (lv : sL) (m : sM) : Option (Nat × List sV × List sV × Nat) :=
  bif Nat.beq md 3 then (match s_infx y ix st lv m with
    | some (z, as, rest) => some (z, as, rest, 5)
    | none => none)
  else (match s_invx y md ix st lv m with
    | some (z, as, rest) => some (z, as, rest, 3)
    | none => none)
def s_isret (i : Instr) : Bool := match i with
  | .ireturn => true
  | .lreturn => true
  | .dreturn => true
  | .areturn => true
  | .return_ => true
  | _ => false
theorem s_isret_no {i : Instr} (h : s_isret i = false) (y : Nat) (st : List Value) : g_ret y i st = none := by
  cases i <;> first | rfl | cases h
noncomputable def s_ret (y : Nat) (i : Instr) (st : List sV) : Option (Option sV) := match i with
  | .ireturn => match st with
    | [.inl (.int v)] => match s_R y with
      | some ty => if narrow ty (.int v) = .int v then some (some (.inl (.int v))) else none
      | none => none
    | _ => none
  | .lreturn => match st with
    | [.inl (.long v)] => if s_R y = some .long then some (some (.inl (.long v))) else none
    | _ => none
  | .dreturn => match st with
    | [.inl (.double v)] => if s_R y = some .double then some (some (.inl (.double v))) else none
    | _ => none
  | .areturn => match st with
    | [.inl (.ref a)] => match s_R y with
      | some ty => if g_isRef ty = true then some (some (.inl (.ref a))) else none
      | none => none
    | _ => none
  | .return_ => match st with
    | [] => if s_R y = none then some none else none
    | _ => none
  | _ => none
theorem s_ret_ok {ε : Nat → Int32} {y : Nat} {i : Instr} {st : List sV} {r : Option sV} (h : s_ret y i st = some r) : g_ret y i (s_S ε st) = some (r.map (s_v ε)) := by
  cases i with
  | ireturn =>
    simp only [s_ret, s_R_eq] at h
    split at h
    · split at h
      · next ty hty =>
        split at h
        · next hn =>
          cases h
          simp only [g_ret, s_S, List.map_cons, List.map_nil, s_v, hty]
          rw [if_pos hn]
          rfl
        · cases h
      · cases h
    · cases h
  | lreturn =>
    simp only [s_ret, s_R_eq] at h
    split at h
    · split at h
      · next hn =>
        cases h
        simp only [g_ret, s_S, List.map_cons, List.map_nil, s_v]
        rw [if_pos hn]
        rfl
      · cases h
    · cases h
  | dreturn =>
    simp only [s_ret, s_R_eq] at h
    split at h
    · split at h
      · next hn =>
        cases h
        simp only [g_ret, s_S, List.map_cons, List.map_nil, s_v]
        rw [if_pos hn]
        rfl
      · cases h
    · cases h
  | areturn =>
    simp only [s_ret, s_R_eq] at h
    split at h
    · split at h
      · next ty hty =>
        split at h
        · next hn =>
          cases h
          simp only [g_ret, s_S, List.map_cons, List.map_nil, s_v, hty]
          rw [if_pos hn]
          rfl
        · cases h
      · cases h
    · cases h
  | return_ =>
    simp only [s_ret, s_R_eq] at h
    split at h
    · split at h
      · next hn =>
        cases h
        simp only [g_ret, s_S, List.map_nil]
        rw [if_pos hn]
        rfl
      · cases h
    · cases h
  | _ => cases h
abbrev sRec : Type := Option Nat → sI → Nat → Nat → sL → List sV → sM → Nat → Nat → (sI → sOut → Bool) → Bool
theorem s_op_i {i : Instr} {f : sFn} (h : s_op i = .inl f) : s_isret i = false ∧ (∀ y, s_nocal y i = true) ∧ (∀ I st m, s_sp I i st m = [I]) ∧ s_fx i = f := by
  cases i <;> first | (cases h; exact ⟨rfl, fun _ => rfl, fun _ _ _ => rfl, rfl⟩) | cases h
theorem s_op_s {i : Instr} {q : sSp × sFn} (h : s_op i = .inr (.inl q)) : s_isret i = false ∧ (∀ y, s_nocal y i = true) ∧ (∀ I st m, s_sp I i st m = q.1 I st m) ∧ s_fx i = q.2 := by
  cases i <;> first | (cases h; exact ⟨rfl, fun _ => rfl, fun _ _ _ => rfl, rfl⟩) | cases h
noncomputable def s_retx (k y : Nat) (st : List sV) : Option (Option sV) := match k with
  | 0 => s_ret y .ireturn st
  | 1 => s_ret y .lreturn st
  | 2 => s_ret y .dreturn st
  | 3 => s_ret y .areturn st
  | 4 => s_ret y .return_ st
  | _ => none
theorem s_op_r {i : Instr} {k : Nat} (h : s_op i = .inr (.inr (.inl k))) (y : Nat) (st : List sV) : s_isret i = true ∧ s_retx k y st = s_ret y i st := by
  cases i <;> first | (cases h; exact ⟨rfl, rfl⟩) | cases h
/-- a call, by its kind and site -/
def s_cin (i : Instr) (md ix : Nat) : Prop := (md = 0 ∧ i = .invokestatic ix) ∨ (md = 1 ∧ i = .invokevirtual ix) ∨ (md = 2 ∧ i = .invokespecial ix) ∨ (md = 3 ∧ ∃ n, i = .invokeinterface ix n)
theorem s_op_c {i : Instr} {q : Nat × Nat} (h : s_op i = .inr (.inr (.inr q))) : s_cin i q.1 q.2 := by
  cases i <;> first | (cases h; first | exact Or.inl ⟨rfl, rfl⟩ | exact Or.inr (Or.inl ⟨rfl, rfl⟩) | exact Or.inr (Or.inr (Or.inl ⟨rfl, rfl⟩)) | exact Or.inr (Or.inr (Or.inr ⟨rfl, _, rfl⟩))) | cases h
noncomputable def s_nocy (y md ix : Nat) : Bool := bif Nat.beq md 3 then false else s_nocx y ix
noncomputable def s_stx (md ix : Nat) : sFn := bif Nat.beq md 0 then s_x_invokestatic ix else bif Nat.beq md 2 then s_x_invokespecial ix else s_x_no
theorem s_cin_i {i : Instr} {md ix : Nat} (h : s_cin i md ix) : s_isret i = false ∧ (∀ y, s_nocal y i = s_nocy y md ix) ∧ (∀ I st m, s_sp I i st m = [I]) ∧ s_fx i = s_stx md ix ∧ (∀ y st lv m, s_cal y i st lv m = s_calx y md ix st lv m) := by
  rcases h with ⟨rfl, rfl⟩ | ⟨rfl, rfl⟩ | ⟨rfl, rfl⟩ | ⟨rfl, n, rfl⟩
  · refine ⟨rfl, fun _ => rfl, fun _ _ _ => rfl, rfl, fun y st lv m => ?_⟩
    show (match s_invx y 0 ix st lv m with
      | some (z, as, rest) => some (z, as, rest, 3)
      | none => none) = _
    rfl
  · refine ⟨rfl, fun _ => rfl, fun _ _ _ => rfl, rfl, fun y st lv m => ?_⟩
    show (match s_invx y 1 ix st lv m with
      | some (z, as, rest) => some (z, as, rest, 3)
      | none => none) = _
    rfl
  · refine ⟨rfl, fun _ => rfl, fun _ _ _ => rfl, rfl, fun y st lv m => ?_⟩
    show (match s_invx y 2 ix st lv m with
      | some (z, as, rest) => some (z, as, rest, 3)
      | none => none) = _
    rfl
  · refine ⟨rfl, fun _ => rfl, fun _ _ _ => rfl, rfl, fun y st lv m => ?_⟩
    show (match s_infx y ix st lv m with
      | some (z, as, rest) => some (z, as, rest, 5)
      | none => none) = _
    rfl
noncomputable def s_goQ (rec : sRec) (cut : Option Nat) (I : sI) (y : Nat) (κ : sI → sOut → Bool) (q : Option sCf) : Bool := match q with
  | some q => rec cut I y q.1 q.2.1 q.2.2.1 q.2.2.2.1 q.2.2.2.2.1 q.2.2.2.2.2 κ
  | none => false
noncomputable def s_goH (rec : sRec) (cut : Option Nat) (y : Nat) (lv : sL) (κ : sI → sOut → Bool) (I1 : sI) (E : String) (m1 : sM) (c1 d1 : Nat) (f : Option (Option Nat)) : Bool := match f with
  | some (some h) => rec cut I1 y h lv [.inl (.ref m1.1)] (m1.1 + 1, m1.2) c1 d1 κ
  | some none => κ I1 (.inl (.inr E), m1, c1, d1)
  | none => false
noncomputable def s_goK (rec : sRec) (cut : Option Nat) (y pc nn : Nat) (lv : sL) (rest : List sV) (c d : Nat) (κ : sI → sOut → Bool) (I1 : sI) (o : sOut) : Bool := match o.1 with
  | .inl (.inl r) => rec cut I1 y (pc + nn) lv (r.toList ++ rest) o.2.1 (c + o.2.2.1) (d + o.2.2.2) κ
  | .inl (.inr E) => s_goH rec cut y lv κ I1 E o.2.1 (c + o.2.2.1) (d + o.2.2.2) (g_find y pc E (gH y))
  | .inr _ => false
noncomputable def s_goC (rec : sRec) (cut : Option Nat) (I : sI) (y pc : Nat) (lv : sL) (m : sM) (c d : Nat) (κ : sI → sOut → Bool) (q : Option (Nat × List sV × List sV × Nat)) : Bool := match q with
  | none => false
  | some q => rec none I q.1 0 (s_args 0 q.2.1) [] m 0 0 (s_goK rec cut y pc q.2.2.2 lv q.2.2.1 c d κ)
noncomputable def s_goR (I : sI) (m : sM) (c d : Nat) (κ : sI → sOut → Bool) (r : Option (Option sV)) : Bool := match r with
  | some r => κ I (.inl (.inl r), m, c, d)
  | none => false
noncomputable def s_goS (L : Nat) (rec : sRec) (cut : Option Nat) (I : sI) (y pc : Nat) (lv : sL) (st : List sV) (m : sM) (c d : Nat) (κ : sI → sOut → Bool) (f : sFn) (l : List sI) : Bool := l.all (fun I1 => s_goQ rec cut I1 y κ (f L I1 y pc lv st m c d))
noncomputable def s_goV (L : Nat) (rec : sRec) (cut : Option Nat) (I : sI) (y pc : Nat) (lv : sL) (st : List sV) (m : sM) (c d : Nat) (κ : sI → sOut → Bool) (md ix : Nat) : Bool := bif s_nocy y md ix then s_goQ rec cut I y κ (s_stx md ix L I y pc lv st m c d) else s_goC rec cut I y pc lv m c d κ (s_calx y md ix st lv m)
noncomputable def s_goI (L : Nat) (rec : sRec) (cut : Option Nat) (I : sI) (y pc : Nat) (lv : sL) (st : List sV) (m : sM) (c d : Nat) (κ : sI → sOut → Bool) (q : sOp) : Bool := match q with
  | .inl f => s_goQ rec cut I y κ (f L I y pc lv st m c d)
  | .inr (.inl q) => s_goS L rec cut I y pc lv st m c d κ q.2 (q.1 I st m)
  | .inr (.inr (.inl k)) => s_goR I m c d κ (s_retx k y st)
  | .inr (.inr (.inr q)) => s_goV L rec cut I y pc lv st m c d κ q.1 q.2
noncomputable def s_goT (y : Nat) (I : sI) (st : List sV) (m : sM) (c d : Nat) (κ : sI → sOut → Bool) (E : String) : Bool := if (st.map s_cat).sum ≤ 8 ∧ 6 ≤ s_F y ∧ 98 ≤ s_W y ∧ gH y = [] then κ I (.inl (.inr E), m, c + 1, d + 6) else false
noncomputable def s_goD (L : Nat) (rec : sRec) (cut : Option Nat) (I : sI) (y pc : Nat) (lv : sL) (st : List sV) (m : sM) (c d : Nat) (κ : sI → sOut → Bool) (q : Option sOp) : Bool := match q with
  | none => false
  | some q => s_goI L rec cut I y pc lv st m c d κ q
noncomputable def s_goX (L : Nat) (rec : sRec) (cut : Option Nat) (I : sI) (y pc : Nat) (lv : sL) (st : List sV) (m : sM) (c d : Nat) (κ : sI → sOut → Bool) (q : Option (String × Nat × Nat × Nat × String × Bool)) : Bool := match q with
  | some v => s_goT y I st m c d κ v.1
  | none => s_goD L rec cut I y pc lv st m c d κ (s_jc y pc)
noncomputable def s_goM (L : Nat) (rec : sRec) (cut : Option Nat) (I : sI) (y pc : Nat) (lv : sL) (st : List sV) (m : sM) (c d : Nat) (κ : sI → sOut → Bool) (q : Option (Nat × sL × List sV × sM)) : Bool := match q with
  | some q => rec cut I y q.1 q.2.1 q.2.2.1 q.2.2.2 c d κ
  | none => s_goX L rec cut I y pc lv st m c d κ (s_thr y pc)
def s_cutb (cut : Option Nat) (pc : Nat) : Bool := match cut with
  | none => false
  | some n => Nat.beq n pc
noncomputable def s_go (mac : sMac) (L : Nat) (rec : sRec) (cut : Option Nat) (I : sI) (y pc : Nat) (lv : sL) (st : List sV) (m : sM) (c d : Nat) (κ : sI → sOut → Bool) : Bool :=
  bif s_cutb cut pc then κ I (.inr (lv, st), m, c, d) else s_goM L rec cut I y pc lv st m c d κ (mac y pc I lv st m c d)
/-- THE SYMBOLIC RUN: true, if every end that the run may come to keeps κ -/
noncomputable def s_run (mac : sMac) (L : Nat) : Nat → sRec
  | 0 => fun _ _ _ _ _ _ _ _ _ _ => false
  | k + 1 => fun cut I y pc lv st m c d κ => s_go mac L (s_run mac L k) cut I y pc lv st m c d κ
noncomputable def s_res (ε : Nat → Int32) (r : Option sV ⊕ String) : Option Value ⊕ String := match r with
  | .inl v => .inl (v.map (s_v ε))
  | .inr E => .inr E
noncomputable def s_Rl (xs ε : Nat → Int32) (L : Nat) (cut : Option Nat) (y pc : Nat) (lv : gL) (st : List Value) (M : gM) (c d : Nat) (o : sOut) : Prop := match o.1 with
  | .inl r => g_R xs L y pc lv st M c d (s_res ε r, s_M ε o.2.1, o.2.2.1, o.2.2.2)
  | .inr q => ∃ pc1, cut = some pc1 ∧ ∀ o' : gOut, g_R xs L y pc1 (s_Lv ε q.1) (s_S ε q.2) (s_M ε o.2.1) o.2.2.1 o.2.2.2 o' → g_R xs L y pc lv st M c d o'
theorem s_Rl_tr {xs ε : Nat → Int32} {L : Nat} {cut : Option Nat} {y pc pc2 : Nat} {lv lv2 : gL} {st st2 : List Value} {M M2 : gM} {c d c2 d2 : Nat} {o : sOut} (h : ∀ o' : gOut, g_R xs L y pc2 lv2 st2 M2 c2 d2 o' → g_R xs L y pc lv st M c d o') (h2 : s_Rl xs ε L cut y pc2 lv2 st2 M2 c2 d2 o) : s_Rl xs ε L cut y pc lv st M c d o := by
  obtain ⟨o1, m1, c1, d1⟩ := o
  cases o1 with
  | inl r => exact h _ h2
  | inr q =>
    obtain ⟨pc1, e, h3⟩ := h2
    exact ⟨pc1, e, fun o' ho => h _ (h3 o' ho)⟩
def s_macok (xs ε : Nat → Int32) (L : Nat) (mac : sMac) : Prop := ∀ (y pc : Nat) (I : sI) (lv : sL) (st : List sV) (m : sM) (c d : Nat) (pc1 : Nat) (lv1 : sL) (st1 : List sV) (m1 : sM), mac y pc I lv st m c d = some (pc1, lv1, st1, m1) → s_wf m → s_sat ε I → s_wf m1 ∧ ∀ (o : gOut), g_R xs L y pc1 (s_Lv ε lv1) (s_S ε st1) (s_M ε m1) c d o → g_R xs L y pc (s_Lv ε lv) (s_S ε st) (s_M ε m) c d o
theorem s_nomac (xs ε : Nat → Int32) (L : Nat) : s_macok xs ε L (fun _ _ _ _ _ _ _ _ => none) := fun _ _ _ _ _ _ _ _ _ _ _ _ h => by cases h
set_option maxHeartbeats 2000000 in
theorem s_run_ok {xs ε : Nat → Int32} {L : Nat} (hL : L ≤ 6) (hxs : ∀ n, n < 6 → ε n = xs n) (h6 : ε 6 = ε 0 &&& 31) {mac : sMac} (hmac : s_macok xs ε L mac) : ∀ (k : Nat) (cut : Option Nat) (I : sI) (y pc : Nat) (lv : sL) (st : List sV) (m : sM) (c d : Nat) (κ : sI → sOut → Bool), s_run mac L k cut I y pc lv st m c d κ = true → s_sat ε I → s_wf m → ∃ (I1 : sI) (o : sOut), κ I1 o = true ∧ s_sat ε I1 ∧ s_wf o.2.1 ∧ s_Rl xs ε L cut y pc (s_Lv ε lv) (s_S ε st) (s_M ε m) c d o
  | 0, _, _, _, _, _, _, _, _, _, _, h, _, _ => by cases h
  | k + 1, cut, I, y, pc, lv, st, m, c, d, κ, h, hI, hm => by
    have ih := s_run_ok hL hxs h6 hmac k
    have h : s_go mac L (s_run mac L k) cut I y pc lv st m c d κ = true := h
    generalize s_run mac L k = rec at h ih
    unfold s_go at h
    cases hcb : s_cutb cut pc with
    | true =>
      rw [hcb] at h
      have hcut : cut = some pc := by
        unfold s_cutb at hcb
        split at hcb
        · cases hcb
        · rw [Nat.eq_of_beq_eq_true hcb]
      exact ⟨I, _, h, hI, hm, pc, hcut, fun o' ho => ho⟩
    | false =>
      rw [hcb] at h
      have h : s_goM L rec cut I y pc lv st m c d κ (mac y pc I lv st m c d) = true := h
      unfold s_goM at h
      split at h
      · next q hq =>
        obtain ⟨pc1, lv1, st1, m1⟩ := q
        obtain ⟨hm1, hgo⟩ := hmac _ _ _ _ _ _ _ _ _ _ _ _ hq hm hI
        obtain ⟨I1, o, a1, a2, a3, a4⟩ := ih _ _ _ _ _ _ _ _ _ _ h hI hm1
        exact ⟨I1, o, a1, a2, a3, s_Rl_tr (fun o' ho => hgo _ ho) a4⟩
      · unfold s_goX at h
        rw [s_thr_eq] at h
        split at h
        · next v hT =>
          unfold s_goT at h
          rw [s_F_eq, s_W_eq] at h
          split at h
          · next hc =>
            refine ⟨I, _, h, hI, hm, ?_⟩
            exact g_R_thr hT (by rw [s_cats_ok]; exact hc)
          · cases h
        · next hT =>
          unfold s_goD at h
          split at h
          · cases h
          · next op hop =>
            obtain ⟨i, n, hi, hio⟩ := s_jc_i hop
            have step : ∀ (hir : s_isret i = false) (hnc : s_nocal y i = true) (I' : sI) (hsat : s_sat ε I') (h1 : s_goQ rec cut I' y κ (s_stp L I' y i pc lv st m c d) = true), ∃ (I1 : sI) (o : sOut), κ I1 o = true ∧ s_sat ε I1 ∧ s_wf o.2.1 ∧ s_Rl xs ε L cut y pc (s_Lv ε lv) (s_S ε st) (s_M ε m) c d o := fun hir hnc I' hsat h1 => by
              have hret := s_isret_no hir y (s_S ε st)
              unfold s_goQ at h1
              split at h1
              · next q hs =>
                obtain ⟨e1, e2, e3, e4, e5⟩ := s_stp_ok hsat hL hxs h6 hm hs
                obtain ⟨I1, o, a1, a2, a3, a4⟩ := ih _ _ _ _ _ _ _ _ _ _ h1 hsat e5
                exact ⟨I1, o, a1, a2, a3, s_Rl_tr (fun o' ho => g_R_stp hT hi hret (s_nocal_ok hnc _ _ _) e1 ⟨e2, e3, e4⟩ ho) a4⟩
              · cases h1
            unfold s_goI at h
            split at h
            · next f =>
              obtain ⟨f1, f2, f3, f4⟩ := s_op_i hio
              exact step f1 (f2 y) I hI (by unfold s_stp; rw [f4]; exact h)
            · next q =>
              obtain ⟨f1, f2, f3, f4⟩ := s_op_s hio
              unfold s_goS at h
              obtain ⟨I', hI', hsat⟩ := s_sp_ok hI i st m
              rw [f3] at hI'
              have h1 := List.all_eq_true.mp h I' hI'
              exact step f1 (f2 y) I' hsat (by unfold s_stp; rw [f4]; exact h1)
            · next k =>
              obtain ⟨f1, f2⟩ := s_op_r hio y st
              rw [f2] at h
              unfold s_goR at h
              split at h
              · next r hr => exact ⟨I, _, h, hI, hm, g_R_ret hT hi (s_ret_ok hr)⟩
              · cases h
            · next q =>
              obtain ⟨md, ix⟩ := q
              obtain ⟨hir, f2, f3, f4, f5⟩ := s_cin_i (s_op_c hio)
              unfold s_goV at h
              cases hnc : s_nocy y md ix with
                  | true =>
                    rw [hnc] at h
                    exact step hir (by rw [f2]; exact hnc) I hI (by unfold s_stp; rw [f4]; exact h)
                  | false =>
                    rw [hnc] at h
                    have hret := s_isret_no hir y (s_S ε st)
                    have h : s_goC rec cut I y pc lv m c d κ (s_calx y md ix st lv m) = true := h
                    rw [← f5] at h
                    unfold s_goC at h
                    split at h
                    · cases h
                    · next zq hcl =>
                      obtain ⟨z, as, rest, nn⟩ := zq
                      have hc2 := s_cal_ok (ε := ε) hm hcl
                      obtain ⟨I1, o, a1, a2, a3, a4⟩ := ih _ _ _ _ _ _ _ _ _ _ h hI hm
                      obtain ⟨o1, m1, c1, d1⟩ := o
                      dsimp only at a3
                      rw [← s_args_ok] at a4
                      cases o1 with
                      | inl r =>
                        cases r with
                        | inl v =>
                          have a1 : rec cut I1 y (pc + nn) lv (v.toList ++ rest) m1 (c + c1) (d + d1) κ = true := a1
                          obtain ⟨I2, o2, b1, b2, b3, b4⟩ := ih _ _ _ _ _ _ _ _ _ _ a1 a2 a3
                          refine ⟨I2, o2, b1, b2, b3, s_Rl_tr (fun o' ho => g_R_cal hT hi hret hc2 a4 ?_) b4⟩
                          have e9 : (Option.map (s_v ε) v).toList ++ s_S ε rest = s_S ε (v.toList ++ rest) := by
                            cases v <;> rfl
                          rw [e9]
                          exact ho
                        | inr E =>
                          have a1 : s_goH rec cut y lv κ I1 E m1 (c + c1) (d + d1) (g_find y pc E (gH y)) = true := a1
                          unfold s_goH at a1
                          split at a1
                          · next hh hf2 =>
                            obtain ⟨I2, o2, b1, b2, b3, b4⟩ := ih _ _ _ _ _ _ _ _ _ _ a1 a2 (s_dark_wf a3)
                            refine ⟨I2, o2, b1, b2, b3, s_Rl_tr (fun o' ho => g_R_calX hT hi hret hc2 a4 hf2 ?_) b4⟩
                            have e9 := s_dark_ok (ε := ε) a3
                            have e8 : ((s_M ε m1).1 + 1, va_up (s_M ε m1).2 (s_M ε m1).1 none) = s_M ε (m1.1 + 1, m1.2) := e9
                            rw [e8]
                            exact ho
                          · next hf2 => exact ⟨I1, _, a1, a2, a3, g_R_calO hT hi hret hc2 a4 hf2⟩
                          · cases a1
                      | inr q => cases a1
