theorem g_w {args : Array Value} {s : State} (hts : ∀ w ∈ lw_tbl, g_gw w = true → va_Nw w s) {w : Cond} {j : Nat} (h : lw_tbl[j]? = some w ∧ g_gw w = true) : w.before args s = true :=
  g_gw_moved (State.WarmedH.refl s) h.2 (hts w (List.mem_of_getElem? h.1) h.2)
def gp_w (j : Nat) (w : Cond) : Bool := decide (lw_tbl[j]? = some w) && g_gw w
theorem gp_w_ok {j : Nat} {w : Cond} (h : gp_w j w = true) : lw_tbl[j]? = some w ∧ g_gw w = true := by
  simp only [gp_w, Bool.and_eq_true, decide_eq_true_eq] at h
  exact h
def gp_lk (own : String) (ix : Nat) (ref n ds : String) (host : Option String) : Cond := match host with
  | none => .fieldLink own ix ref n ds
  | some h => .fieldLinkNest own ix ref n ds h
def gp_fl (c ix : Nat) (v : Nat × Nat × Nat × Option String × String) : Bool := match v with
  | (ci, k, j, host, ref) => decide (ci < vwCl.length) && (decide (k < (g_cl ci).2.2) && ((decide (ref = ((g_cl ci).2.1 k).1) || lw_tbl.any (fun w => decide (w = .sameField ref ((g_cl ci).2.1 k).1 ((g_cl ci).2.1 k).2.1 ((g_cl ci).2.1 k).2.2.1) && g_gw w)) && gp_w j (gp_lk (gc_N.getD c "") ix ref ((g_cl ci).2.1 k).2.1 ((g_cl ci).2.1 k).2.2.1 host)))
set_option maxRecDepth 100000 in
theorem gv_fl : (List.range gc_fl.length).all (fun c => (gc_fl.getD c []).all (fun e => gp_fl c e.1 e.2)) = true := by decide +kernel
def gp_nw (c ix : Nat) (v : Nat × Nat × Nat × Nat) : Bool := match v with
  | (ci, j, j1, j2) => decide (ci < vwCl.length) && (gp_w j (.classLink (gc_N.getD c "") ix (g_cl ci).1) && (gp_w j1 (.instantiable (g_cl ci).1 (g_cl ci).2.2) && gp_w j2 (.initialized (g_cl ci).1)))
set_option maxRecDepth 100000 in
theorem gv_nw : (List.range gc_nw.length).all (fun c => (gc_nw.getD c []).all (fun e => gp_nw c e.1 e.2)) = true := by decide +kernel
def gp_an (c ix : Nat) (v : Nat × Nat × Nat) : Bool := match v with
  | (tg, j, j1) => match g_tys[tg]? with
    | some (.object C) => gp_w j (.classLink (gc_N.getD c "") ix C)
    | _ => false
set_option maxRecDepth 100000 in
theorem gv_an : (List.range gc_an.length).all (fun c => (gc_an.getD c []).all (fun e => gp_an c e.1 e.2)) = true := by decide +kernel
def gp_cs (c ix : Nat) (v : Value × Nat) : Bool := match v with
  | (.int x, j) => gp_w j (.constant (gc_N.getD c "") ix x)
  | (.long x, j) => gp_w j (.constantLong (gc_N.getD c "") ix x)
  | (.double x, j) => gp_w j (.constantDouble (gc_N.getD c "") ix x)
  | _ => false
set_option maxRecDepth 100000 in
theorem gv_cs : (List.range gc_cs.length).all (fun c => (gc_cs.getD c []).all (fun e => gp_cs c e.1 e.2)) = true := by decide +kernel
theorem gv_cs_int {y ix : Nat} {x : Int32} {j : Nat} (h : gCs y ix = some (.int x, j)) : lw_tbl[j]? = some (.constant (gOwn y) ix x) ∧ g_gw (.constant (gOwn y) ix x) = true := gp_w_ok (g_look gv_cs h)
theorem gv_cs_long {y ix : Nat} {x : Int64} {j : Nat} (h : gCs y ix = some (.long x, j)) : lw_tbl[j]? = some (.constantLong (gOwn y) ix x) ∧ g_gw (.constantLong (gOwn y) ix x) = true := gp_w_ok (g_look gv_cs h)
theorem gv_cs_double {y ix : Nat} {x : UInt64} {j : Nat} (h : gCs y ix = some (.double x, j)) : lw_tbl[j]? = some (.constantDouble (gOwn y) ix x) ∧ g_gw (.constantDouble (gOwn y) ix x) = true := gp_w_ok (g_look gv_cs h)
def gp_cl (ci : Nat) : Bool := (u_ws (g_cl ci).1 (g_cl ci).2.1 (g_cl ci).2.2).all (fun w => lw_tbl.any (fun w2 => decide (w2 = w)) && g_gw w) && ((List.range (g_cl ci).2.2).all (fun k => decide (parseFieldDescriptor ((g_cl ci).2.1 k).2.2.1 = some (g_ft ci k))) && (List.range (g_cl ci).2.2).all (fun a => (List.range (g_cl ci).2.2).all (fun b => a == b || decide (((g_cl ci).2.1 a).2.1 ≠ ((g_cl ci).2.1 b).2.1))))
set_option maxRecDepth 100000 in
theorem gv_cl : (List.range vwCl.length).all gp_cl = true := by decide +kernel
theorem g_cl_at {ci : Nat} (h : ci < vwCl.length) : vwCl[ci]? = some ((g_cl ci).1, (g_cl ci).2.1, (g_cl ci).2.2) := by
  show vwCl[ci]? = some (g_cl ci)
  unfold g_cl
  rw [List.getD_eq_getElem?_getD, List.getElem?_eq_getElem h]
  rfl
theorem g_cl_ok {ci : Nat} (h : ci < vwCl.length) : (∀ w ∈ u_ws (g_cl ci).1 (g_cl ci).2.1 (g_cl ci).2.2, w ∈ lw_tbl ∧ g_gw w = true) ∧ (∀ k, k < (g_cl ci).2.2 → parseFieldDescriptor ((g_cl ci).2.1 k).2.2.1 = some (g_ft ci k)) ∧ (∀ a, a < (g_cl ci).2.2 → ∀ b, b < (g_cl ci).2.2 → a ≠ b → ((g_cl ci).2.1 a).2.1 ≠ ((g_cl ci).2.1 b).2.1) := by
  have h1 := List.all_eq_true.mp gv_cl ci (List.mem_range.mpr h)
  simp only [gp_cl, Bool.and_eq_true] at h1
  obtain ⟨h1, h2, h3⟩ := h1
  refine ⟨fun w hw => ?_, fun k hk => ?_, fun a ha b hb hab => ?_⟩
  · have h4 := List.all_eq_true.mp h1 w hw
    simp only [Bool.and_eq_true, List.any_eq_true, decide_eq_true_eq] at h4
    obtain ⟨⟨w2, hm, rfl⟩, h5⟩ := h4
    exact ⟨hm, h5⟩
  · exact of_decide_eq_true (List.all_eq_true.mp h2 k (List.mem_range.mpr hk))
  · have h4 := List.all_eq_true.mp (List.all_eq_true.mp h3 a (List.mem_range.mpr ha)) b (List.mem_range.mpr hb)
    simp only [Bool.or_eq_true, beq_iff_eq, decide_eq_true_eq] at h4
    rcases h4 with h4 | h4
    · exact absurd h4 hab
    · exact h4
theorem g_fl_ok {y ix ci k j : Nat} {host : Option String} {ref : String} (h : gFld y ix = some (ci, k, j, host, ref)) : ci < vwCl.length ∧ k < (g_cl ci).2.2 ∧ (ref = ((g_cl ci).2.1 k).1 ∨ ∃ j2 : Nat, lw_tbl[j2]? = some (.sameField ref ((g_cl ci).2.1 k).1 ((g_cl ci).2.1 k).2.1 ((g_cl ci).2.1 k).2.2.1) ∧ g_gw (.sameField ref ((g_cl ci).2.1 k).1 ((g_cl ci).2.1 k).2.1 ((g_cl ci).2.1 k).2.2.1) = true) ∧ gp_w j (gp_lk (gOwn y) ix ref ((g_cl ci).2.1 k).2.1 ((g_cl ci).2.1 k).2.2.1 host) = true := by
  have h1 := g_look gv_fl h
  simp only [gp_fl, Bool.and_eq_true, Bool.or_eq_true, decide_eq_true_eq, List.any_eq_true] at h1
  obtain ⟨h2, h3, h4, h5⟩ := h1
  refine ⟨h2, h3, ?_, h5⟩
  rcases h4 with h4 | ⟨w, hm, rfl, hg⟩
  · exact Or.inl h4
  · obtain ⟨j2, hj⟩ := List.getElem?_of_mem hm
    exact Or.inr ⟨j2, hj, hg⟩
theorem g_nw_ok {y ix ci j j1 j2 : Nat} (h : gNw y ix = some (ci, j, j1, j2)) : ci < vwCl.length ∧ gp_w j (.classLink (gOwn y) ix (g_cl ci).1) = true ∧ gp_w j1 (.instantiable (g_cl ci).1 (g_cl ci).2.2) = true ∧ gp_w j2 (.initialized (g_cl ci).1) = true := by
  have h1 := g_look gv_nw h
  simp only [gp_nw, Bool.and_eq_true, decide_eq_true_eq] at h1
  exact h1
theorem g_an_ok {y ix tg j j1 : Nat} (h : gAn y ix = some (tg, j, j1)) : ∃ C, g_tys[tg]? = some (.object C) ∧ gp_w j (.classLink (gOwn y) ix C) = true := by
  have h1 := g_look gv_an h
  simp only [gp_an] at h1
  split at h1
  · next C hC =>
    exact ⟨C, hC, h1⟩
  · cases h1
def gp_iv (c ix : Nat) (v : Nat × Nat × Nat × Nat × Nat × Nat × Nat × Nat × Option String) : Bool := match v with
  | (z, na, kd, ci, j, j1, j2, j3, host) =>
    if kd = 100 then gp_w j (.methodLink (gc_N.getD c "") ix Lib.objectInit) && (gp_w j1 (.instanceMethod Lib.objectInit) && gp_w j2 (.code Lib.objectInit ⟨#[0xb1]⟩ 1 none))
    else if kd = 101 then gp_w j (.methodLink (gc_N.getD c "") ix Lib.Math.max.name) && (gp_w j1 (.static Lib.Math.max.name) && (gp_w j2 (.code Lib.Math.max.name Lib.Math.max.code 2 (some .int)) && gp_w j3 (.initialized "java/lang/Math")))
    else if kd = 102 then gp_w j (.methodLink (gc_N.getD c "") ix Lib.Math.min.name) && (gp_w j1 (.static Lib.Math.min.name) && (gp_w j2 (.code Lib.Math.min.name Lib.Math.min.code 2 (some .int)) && gp_w j3 (.initialized "java/lang/Math")))
    else if kd = 103 then gp_w j (.methodLink (gc_N.getD c "") ix Lib.Math.abs.name) && (gp_w j1 (.static Lib.Math.abs.name) && (gp_w j2 (.code Lib.Math.abs.name Lib.Math.abs.code 1 (some .int)) && gp_w j3 (.initialized "java/lang/Math")))
    else if kd = 107 then gp_w j (.methodLink (gc_N.getD c "") ix ⟨"java/lang/Math", "abs", "(D)D"⟩) && (gp_w j1 (.static ⟨"java/lang/Math", "abs", "(D)D"⟩) && (gp_w j2 (.code ⟨"java/lang/Math", "abs", "(D)D"⟩ ⟨#[0x26, 0xb8, 0x00, 0x4f, 0x14, 0x00, 0x87, 0x7f, 0xb8, 0x00, 0xa6, 0xaf]⟩ 2 (some .double)) && gp_w j3 (.initialized "java/lang/Math")))
    else decide (z < gm_CI.length) && (decide ((parseMethodDescriptor (gN z).desc).map (fun d => d.parameters.length) = some na) && ((match host with
      | none => gp_w j (.methodLink (gc_N.getD c "") ix (gN z))
      | some h => gp_w j (.methodLinkNest (gc_N.getD c "") ix (gN z) h)) && (if kd = 0 ∨ kd = 3 ∨ kd = 6 then gp_w j1 (.static (gN z)) && decide (host.isSome = decide (kd = 3))
        else if kd = 1 ∨ kd = 4 then gp_w j1 (.instanceMethod (gN z)) && (gp_w j2 (.selects (gN z).cls (gN z) (gN z)) && (decide (host.isSome = decide (kd = 4)) && (decide (ci < vwCl.length) && decide ((g_cl ci).1 = (gN z).cls))))
        else if kd = 2 ∨ kd = 5 then gp_w j1 (.instanceMethod (gN z)) && (decide (host.isSome = decide (kd = 5)) && (decide ((gN z).name = "<init>") && decide (gR z = none)))
        else false)))
set_option maxRecDepth 100000 in
theorem gv_iv : (List.range gc_iv.length).all (fun c => (gc_iv.getD c []).all (fun e => gp_iv c e.1 e.2)) = true := by decide +kernel
/-- a method of the tables: its code's word, its class's -/
def gp_me (y : Nat) : Bool := (decide (y = g_ylaw) || gp_w (gm_wc.getD y 0) (if gm_hw.getD y false then .codeWith (gN y) (gC y) (gLo y) (gR y) (gH y) else .code (gN y) (gC y) (gLo y) (gR y))) && (gp_w (gm_wi.getD y 0) (.initialized (gN y).cls) && (decide ((gN y).cls = gOwn y) && (decide ((gN y).cls ≠ "java/lang/invoke/MethodHandle" ∧ (gN y).cls ≠ "java/lang/invoke/VarHandle") && (plainName (gN y).cls && (gm_hw.getD y false || decide (gH y = []))))))
theorem gv_acI : gp_w g_acI (.arrayClass .int) = true := by decide +kernel
