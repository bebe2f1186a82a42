theorem g_cats (ρ : Nat → Nat) (l : List Value) : ((l.map (g_tr ρ)).map fun v => v.category).sum = (l.map fun v => v.category).sum := by
  rw [List.map_map]
  congr 1
  exact List.map_congr_left fun v _ => g_tr_cat ρ v
def g_TY (cA : Nat → ClassId) (tys : List (ClassId × FieldType)) (M : gM) : Prop := ∀ (k t : Nat) (x : Nat × ((Nat → Int32) ⊕ (Nat → Int64) ⊕ (Nat → Option Nat))), k < M.1 → M.2 k = some (.inr (t, x)) → ∃ (t0 : Nat) (ty : FieldType), g_tys[t]? = some ty ∧ tys[t0]? = some (cA t, ty)
/-- the world as a frame sees it: the start's state s, the heap H now -/
def g_RH (D : va_G) (cA : Nat → ClassId) (A : Nat → Prop) (b : Nat) (s : State) (ρ : Nat → Nat) (M : gM) (H : Heap) (locs : List Loc) : Prop :=
  va_P D vwCl (g_wd cA ρ M) H ∧ va_D A (g_wd cA ρ M) ∧ va_S A s.heap H locs ∧ (∃ tys, va_K D vwCl tys s ∧ g_TY cA tys M) ∧ g_WF M ∧ ρ 0 = b ∧ 0 < M.1
/-- what lies outside the world -/
def g_EX (A : Nat → Prop) (b L : Nat) (xs : Nat → Int32) (U : State) : Prop :=
  (∀ w ∈ lw_tbl, g_gw w = true → va_Nw w U) ∧ (va_X b L xs U U.heap ∧ b < U.heap.size ∧ ¬ A b) ∧ vx_Zq Bundle.tN "UNASSIGNED_STACK" Bundle.steD A U U.heap ∧ vx_Zq Bundle.tN "SUPPRESSED_SENTINEL" Bundle.listD A U U.heap ∧
  (∀ (y pc : Nat) (v : String × Nat × Nat × Nat × String × Bool), (gm_T.getD y []).lookup pc = some v → ∃ sa, vk_R (gOwn y) v.2.2.1 v.2.2.2.2.1 sa U) ∧ (∀ (t : Nat) (C : String), g_tys[t]? = some (.object C) → va_AO C U) ∧ ∀ q ∈ g_nc, va_Nc q.1 q.2 U
def g_FX (p : Program) (l : Launch) (R : Room) (s : State) (m : MethodId) (meth : Method) (cc : Code) (D : va_G) (cA : Nat → ClassId) (A : Nat → Prop) (b L : Nat) (xs : Nat → Int32) (y : Nat) : Prop :=
  p.tables.exec = Jvm.exec ∧ cc.code = gC y ∧ cc.maxLocals = gLo y ∧ meth.sig.returnType = gR y ∧ meth.locks = false ∧ ((gN y).name = "<init>" → meth.name = "<init>") ∧ s.vm.findClass (gOwn y) = some m.cls ∧ gF y ≤ R.frames ∧ gW y ≤ R.locals ∧ (∀ q, s.heap.size ≤ q → A q) ∧ (y ≠ g_ylaw → cc.exceptionTable.toList = tableOf (gH y)) ∧ l.stackTraces = false ∧ g_EX A b L xs s ∧ (∀ (t : Nat) (ty : FieldType) (c0 : ClassId), g_tys[t]? = some ty → va_RA s c0 ty → c0 = cA t)
theorem g_rd_i {M : gM} {a : Nat} {e : gE} (h : g_rd M a = some e) : a < M.1 ∧ M.2 a = some e := by
  unfold g_rd at h
  split at h
  · next q => exact ⟨q, h⟩
  · cases h
theorem g_ix_i {i : Int32} {n : Nat} (h : g_ix i n = true) : vp_in i n := by
  intro hq
  simp only [g_ix, Bool.not_eq_true', Bool.or_eq_false_iff, decide_eq_false_iff_not] at h
  exact hq.elim h.1 h.2
theorem g_TY_up {cA : Nat → ClassId} {tys : List (ClassId × FieldType)} {M : gM} (h : g_TY cA tys M) {a : Nat} {e : gE} (he : ∀ (t : Nat) (x : Nat × ((Nat → Int32) ⊕ (Nat → Int64) ⊕ (Nat → Option Nat))), e = .inr (t, x) → ∃ (t0 : Nat) (ty : FieldType), g_tys[t]? = some ty ∧ tys[t0]? = some (cA t, ty)) : g_TY cA tys (M.1, va_up M.2 a (some e)) := fun k t x hk hx => by
  by_cases hka : k = a
  · subst hka
    have h1 : va_up M.2 k (some e) k = some e := by unfold va_up; rw [if_pos rfl]
    exact he t x (Option.some.inj (h1.symm.trans hx))
  · have h1 : va_up M.2 a (some e) k = M.2 k := by unfold va_up; rw [if_neg hka]
    exact h k t x hk (h1.symm.trans hx)
theorem g_TY_new {cA : Nat → ClassId} {tys more : List (ClassId × FieldType)} {M : gM} (h : g_TY cA tys M) {e : Option gE} (he : ∀ (t : Nat) (x : Nat × ((Nat → Int32) ⊕ (Nat → Int64) ⊕ (Nat → Option Nat))), e = some (.inr (t, x)) → ∃ (t0 : Nat) (ty : FieldType), g_tys[t]? = some ty ∧ (tys ++ more)[t0]? = some (cA t, ty)) : g_TY cA (tys ++ more) (M.1 + 1, va_up M.2 M.1 e) := fun k t x hk hx => by
  by_cases hka : k = M.1
  · subst hka
    have h1 : va_up M.2 M.1 e M.1 = e := by unfold va_up; rw [if_pos rfl]
    exact he t x (h1.symm.trans hx)
  · have h1 : va_up M.2 M.1 e k = M.2 k := by unfold va_up; rw [if_neg hka]
    obtain ⟨t0, ty, h2, h3⟩ := h k t x (Nat.lt_of_le_of_ne (Nat.lt_succ_iff.mp hk) hka) (h1.symm.trans hx)
    exact ⟨t0, ty, h2, by rw [List.getElem?_append_left (List.getElem?_eq_some_iff.mp h3).1]; exact h3⟩
theorem g_df_tr (ρ : Nat → Nat) (ci : Nat) : (g_df ci).map (g_tr ρ) = g_df ci := by
  simp only [g_df, List.map_map]
  refine List.map_congr_left fun k _ => ?_
  show g_tr ρ (defaultValue (g_ft ci k)) = defaultValue (g_ft ci k)
  cases g_ft ci k <;> rfl
theorem g_df_ok (n ci : Nat) : ∀ v ∈ g_df ci, g_ok n v = true := fun v hv => by
  obtain ⟨k, -, rfl⟩ := List.mem_map.mp hv
  cases g_ft ci k <;> rfl
theorem g_df_at (ci : Nat) : ∀ j, j < (g_cl ci).2.2 → defaultValue (g_ft ci j) = vp_V (g_df ci) j := fun j hj => by
  simp only [vp_V, g_df, List.getD_eq_getElem?_getD, List.getElem?_map, List.getElem?_range hj, Option.map_some, Option.getD_some]
theorem g_rf_tr (ρ : Nat → Nat) (r : Option Nat) : va_rf (r.map ρ) = g_tr ρ (va_rf r) := by cases r <;> rfl
theorem g_same_f {s : State} {args : Array Value} (hts : ∀ w ∈ lw_tbl, g_gw w = true → va_Nw w s) {ref C n d : String} (h : ref = C ∨ ∃ j2 : Nat, lw_tbl[j2]? = some (.sameField ref C n d) ∧ g_gw (.sameField ref C n d) = true) : ∀ x, s.fieldFound? C n d = some x → s.fieldFound? ref n d = some x := by
  rcases h with rfl | ⟨j2, h⟩
  · exact fun _ h => h
  · exact fun x hx => u_same (args := args) (g_w hts h) x hx
section GS
variable {p : Program} {l : Launch} {e : Env} {R : Room} {s : State} {m : MethodId} {args : Array Value} {below : List Frame} {meth : Method} {cc : Code} {Q : State → Prop}
variable {D : va_G} {cA : Nat → ClassId} {A : Nat → Prop} {b L : Nat} {xs : Nat → Int32} {y : Nat}
/-- from there on -/
def g_Ko (p : Program) (l : Launch) (e : Env) (R : Room) (s : State) (m : MethodId) (args : Array Value) (below : List Frame) (meth : Method) (cc : Code) (Q : State → Prop) (D : va_G) (cA : Nat → ClassId) (A : Nat → Prop) (b y n0 : Nat) (ρ : Nat → Nat) (q : gCf) : Prop :=
  ∀ (ρ1 : Nat → Nat) (H1 : Heap) (locs1 : List Loc) (ls1 : Array Slot), g_ag n0 ρ ρ1 → g_RH D cA A b s ρ1 q.2.2.2.1 H1 locs1 → lv_has ls1 (gLo y) (g_trL ρ1 q.2.1) → W p l e R s m args below meth cc H1 locs1 q.2.2.2.2.1 q.2.2.2.2.2 Q (F0 m q.1 ls1 (q.2.2.1.map (g_tr ρ1)))
def g_So (p : Program) (l : Launch) (e : Env) (R : Room) (s : State) (m : MethodId) (args : Array Value) (below : List Frame) (meth : Method) (cc : Code) (Q : State → Prop) (D : va_G) (cA : Nat → ClassId) (A : Nat → Prop) (b y : Nat) (ρ : Nat → Nat) (H : Heap) (locs : List Loc) (ls : Array Slot) (q r : gCf) : Prop :=
  q.2.2.2.1.1 ≤ r.2.2.2.1.1 ∧ q.2.2.2.2.1 ≤ r.2.2.2.2.1 ∧ q.2.2.2.2.2 ≤ r.2.2.2.2.2 ∧ (r.2.2.2.2.1 ≤ R.cells → r.2.2.2.2.2 ≤ R.slots → g_Ko p l e R s m args below meth cc Q D cA A b y q.2.2.2.1.1 ρ r → g_RH D cA A b s ρ q.2.2.2.1 H locs → lv_has ls (gLo y) (g_trL ρ q.2.1) → W p l e R s m args below meth cc H locs q.2.2.2.2.1 q.2.2.2.2.2 Q (F0 m q.1 ls (q.2.2.1.map (g_tr ρ))))
theorem g_same {ρ : Nat → Nat} {H : Heap} {locs : List Loc} {ls : Array Slot} {pc pc1 : Nat} {lv : gL} {st st1 : List Value} {M : gM} {c d : Nat}
    (h : (g_RH D cA A b s ρ M H locs → lv_has ls (gLo y) (g_trL ρ lv) → W p l e R s m args below meth cc H locs c d Q (F0 m pc1 ls (st1.map (g_tr ρ)))) → g_RH D cA A b s ρ M H locs → lv_has ls (gLo y) (g_trL ρ lv) → W p l e R s m args below meth cc H locs c d Q (F0 m pc ls (st.map (g_tr ρ)))) :
    g_So p l e R s m args below meth cc Q D cA A b y ρ H locs ls (pc, lv, st, M, c, d) (pc1, lv, st1, M, c, d) :=
  ⟨Nat.le_refl _, Nat.le_refl _, Nat.le_refl _, fun _ _ K hR hl => h (fun hR hl => K ρ H locs ls g_ag.rf hR hl) hR hl⟩
theorem g_keep {ρ : Nat → Nat} {H : Heap} {locs : List Loc} {ls : Array Slot} {pc pc1 : Nat} {lv lv1 : gL} {st st1 : List Value} {M : gM} {c d : Nat}
    (h : (∀ ls1 : Array Slot, g_RH D cA A b s ρ M H locs → lv_has ls1 (gLo y) (g_trL ρ lv1) → W p l e R s m args below meth cc H locs c d Q (F0 m pc1 ls1 (st1.map (g_tr ρ)))) → g_RH D cA A b s ρ M H locs → lv_has ls (gLo y) (g_trL ρ lv) → W p l e R s m args below meth cc H locs c d Q (F0 m pc ls (st.map (g_tr ρ)))) :
    g_So p l e R s m args below meth cc Q D cA A b y ρ H locs ls (pc, lv, st, M, c, d) (pc1, lv1, st1, M, c, d) :=
  ⟨Nat.le_refl _, Nat.le_refl _, Nat.le_refl _, fun _ _ K hR hl => h (fun ls1 hR hl => K ρ H locs ls1 g_ag.rf hR hl) hR hl⟩
theorem g_sameC {ρ : Nat → Nat} {H : Heap} {locs : List Loc} {ls : Array Slot} {pc pc1 : Nat} {lv : gL} {st st1 : List Value} {M : gM} {c d : Nat}
    (h : c ≤ R.cells → d ≤ R.slots → (g_RH D cA A b s ρ M H locs → lv_has ls (gLo y) (g_trL ρ lv) → W p l e R s m args below meth cc H locs c d Q (F0 m pc1 ls (st1.map (g_tr ρ)))) → g_RH D cA A b s ρ M H locs → lv_has ls (gLo y) (g_trL ρ lv) → W p l e R s m args below meth cc H locs c d Q (F0 m pc ls (st.map (g_tr ρ)))) :
    g_So p l e R s m args below meth cc Q D cA A b y ρ H locs ls (pc, lv, st, M, c, d) (pc1, lv, st1, M, c, d) :=
  ⟨Nat.le_refl _, Nat.le_refl _, Nat.le_refl _, fun hc hd K hR hl => h hc hd (fun hR hl => K ρ H locs ls g_ag.rf hR hl) hR hl⟩
/-- a write to a cell -/
theorem g_write {ρ : Nat → Nat} {H : Heap} {locs : List Loc} {ls : Array Slot} {pc pc1 : Nat} {lv : gL} {st st1 : List Value} {M : gM} {a c d : Nat} {e1 : gE}
    (hok : g_WF M → g_okE M.1 e1) (hty : ∀ tys, g_TY cA tys M → ∀ (t : Nat) (x : Nat × ((Nat → Int32) ⊕ (Nat → Int64) ⊕ (Nat → Option Nat))), e1 = .inr (t, x) → ∃ (t0 : Nat) (ty : FieldType), g_tys[t]? = some ty ∧ tys[t0]? = some (cA t, ty))
    (h : (∀ (H1 : Heap) (locs1 : List Loc), va_P D vwCl (g_wd cA ρ (M.1, va_up M.2 a (some e1))) H1 → va_D A (g_wd cA ρ (M.1, va_up M.2 a (some e1))) → va_S A s.heap H1 locs1 → W p l e R s m args below meth cc H1 locs1 c d Q (F0 m pc1 ls (st1.map (g_tr ρ)))) → g_RH D cA A b s ρ M H locs → lv_has ls (gLo y) (g_trL ρ lv) → W p l e R s m args below meth cc H locs c d Q (F0 m pc ls (st.map (g_tr ρ)))) :
    g_So p l e R s m args below meth cc Q D cA A b y ρ H locs ls (pc, lv, st, M, c, d) (pc1, lv, st1, (M.1, va_up M.2 a (some e1)), c, d) :=
  ⟨Nat.le_refl _, Nat.le_refl _, Nat.le_refl _, fun _ _ K hR hl => h (fun H1 locs1 hP1 hD1 hS1 => by
    obtain ⟨-, -, -, ⟨tys, hKt, hT⟩, hWF, h0, h1⟩ := id hR
    exact K ρ H1 locs1 ls g_ag.rf ⟨hP1, hD1, hS1, ⟨tys, hKt, g_TY_up hT (hty tys hT)⟩, g_WF_up hWF (hok hWF), h0, h1⟩ hl) hR hl⟩
/-- a new cell -/
theorem g_make {ρ : Nat → Nat} {H : Heap} {locs : List Loc} {ls : Array Slot} {pc pc1 : Nat} {lv : gL} {st st1 : List Value} {M : gM} {c d c1 d1 : Nat} {e1 : gE} (hc : c ≤ c1) (hd : d ≤ d1)
    (hlv : lv.all (fun q => g_ok M.1 q.2) = true) (hst : st1.all (g_ok M.1) = true) (hok : g_okE M.1 e1)
    (h : c1 ≤ R.cells → d1 ≤ R.slots → (∀ (q : Nat) (H1 : Heap) (tys more : List (ClassId × FieldType)), va_K D vwCl tys s → g_TY cA tys M → va_K D vwCl (tys ++ more) s → (∀ (t : Nat) (x : Nat × ((Nat → Int32) ⊕ (Nat → Int64) ⊕ (Nat → Option Nat))), e1 = .inr (t, x) → ∃ (t0 : Nat) (ty : FieldType), g_tys[t]? = some ty ∧ (tys ++ more)[t0]? = some (cA t, ty)) → va_P D vwCl (g_wd cA ρ M ++ [(q, g_trE cA ρ e1)]) H1 → va_D A (g_wd cA ρ M ++ [(q, g_trE cA ρ e1)]) → va_S A s.heap H1 locs → W p l e R s m args below meth cc H1 locs c1 d1 Q (F0 m pc1 ls (.ref q :: st1.map (g_tr ρ)))) → g_RH D cA A b s ρ M H locs → lv_has ls (gLo y) (g_trL ρ lv) → W p l e R s m args below meth cc H locs c d Q (F0 m pc ls (st.map (g_tr ρ)))) :
    g_So p l e R s m args below meth cc Q D cA A b y ρ H locs ls (pc, lv, st, M, c, d) (pc1, lv, .ref M.1 :: st1, (M.1 + 1, va_up M.2 M.1 (some e1)), c1, d1) :=
  ⟨Nat.le_succ _, hc, hd, fun hc9 hd9 K hR hl => h hc9 hd9 (fun q H1 tys more hK0 hT0 hK1 hty hP1 hD1 hS1 => by
    obtain ⟨-, -, -, -, hWF, h0, h1⟩ := id hR
    have e9 : g_wd cA (va_up ρ M.1 q) (M.1 + 1, va_up M.2 M.1 (some e1)) = g_wd cA ρ M ++ [(q, g_trE cA ρ e1)] := g_push hWF q e1 hok
    have k9 := K (va_up ρ M.1 q) H1 locs ls g_ag.up ⟨by rw [e9]; exact hP1, by rw [e9]; exact hD1, hS1, ⟨tys ++ more, hK1, g_TY_new hT0 (fun t x hx => hty t x (Option.some.inj hx))⟩, g_WF_new hWF (fun e' he' => by cases he'; exact g_okE_mono (Nat.le_succ _) hok), by rw [← h0]; exact g_ag.up 0 h1, Nat.succ_pos _⟩ (by rw [g_trL_ag g_ag.up hlv]; exact hl)
    have e8 : ((.ref M.1 :: st1 : List Value)).map (g_tr (va_up ρ M.1 q)) = .ref q :: st1.map (g_tr ρ) := by
      rw [List.map_cons, g_trs_ag g_ag.up hst]
      show Value.ref (va_up ρ M.1 q M.1) :: _ = _
      unfold va_up; rw [if_pos rfl]
    dsimp only at k9
    rw [e8] at k9
    exact k9) hR hl⟩
set_option maxHeartbeats 4000000 in
set_option maxRecDepth 20000 in
theorem g_stp_ok (F : g_FX p l R s m meth cc D cA A b L xs y) {i : Instr} {n pc : Nat} {lv : gL} {st : List Value} {M : gM} {c d : Nat} {r : gCf} {ρ : Nat → Nat} {H : Heap} {locs : List Loc} {ls : Array Slot} (hI : gI y pc = some (i, n)) (h : g_stp xs L y i pc lv st M c d = some r) :
    g_So p l e R s m args below meth cc Q D cA A b y ρ H locs ls (pc, lv, st, M, c, d) r := by
  obtain ⟨hx, hb, hml, hr, hlocks, hnm, hown, hfr, hlo, hA, htab, hst, ⟨hts, ⟨hX, hbl, hbA⟩, hZ1, hZ2, hstr, hAO, hNc⟩, hcA⟩ := F
  obtain ⟨hdn, hd⟩ := gI_ok hI
  cases i with
  | iconst v =>
    simp only [g_stp] at h
    cases h; exact g_same (fun K hR hl => lv_iconst hx hb (hd (Nat.succ_ne_zero _)) rfl (K hR hl))
  | lconst v =>
    simp only [g_stp] at h
    cases h; exact g_same (fun K hR hl => lv_lconst hx hb (hd (Nat.succ_ne_zero _)) rfl (K hR hl))
  | bipush v =>
    simp only [g_stp] at h
    cases h; exact g_same (fun K hR hl => lv_bipush hx hb (hd (Nat.succ_ne_zero _)) rfl (K hR hl))
  | sipush v =>
    simp only [g_stp] at h
    cases h; exact g_same (fun K hR hl => lv_sipush hx hb (hd (Nat.succ_ne_zero _)) rfl (K hR hl))
  | aconst_null =>
    simp only [g_stp] at h
    cases h; exact g_same (fun K hR hl => lv_null hx hb (hd (Nat.succ_ne_zero _))  (K hR hl))
  | iadd =>
    simp only [g_stp] at h
    obtain ⟨x2, x1, t, e0, h9⟩ := g_pII_i h
    subst e0
    replace h := h9
    cases h; exact g_same (fun K hR hl => lv_iadd hx hb (hd (Nat.succ_ne_zero _))  (K hR hl))
  | isub =>
    simp only [g_stp] at h
    obtain ⟨x2, x1, t, e0, h9⟩ := g_pII_i h
    subst e0
    replace h := h9
    cases h; exact g_same (fun K hR hl => lv_isub hx hb (hd (Nat.succ_ne_zero _))  (K hR hl))
  | imul =>
    simp only [g_stp] at h
    obtain ⟨x2, x1, t, e0, h9⟩ := g_pII_i h
    subst e0
    replace h := h9
    cases h; exact g_same (fun K hR hl => lv_imul hx hb (hd (Nat.succ_ne_zero _))  (K hR hl))
  | iand =>
    simp only [g_stp] at h
    obtain ⟨x2, x1, t, e0, h9⟩ := g_pII_i h
    subst e0
    replace h := h9
    cases h; exact g_same (fun K hR hl => lv_iand hx hb (hd (Nat.succ_ne_zero _))  (K hR hl))
  | ior =>
    simp only [g_stp] at h
    obtain ⟨x2, x1, t, e0, h9⟩ := g_pII_i h
    subst e0
    replace h := h9
    cases h; exact g_same (fun K hR hl => lv_ior hx hb (hd (Nat.succ_ne_zero _))  (K hR hl))
  | ishl =>
    simp only [g_stp] at h
    obtain ⟨x2, x1, t, e0, h9⟩ := g_pII_i h
    subst e0
    replace h := h9
    cases h; exact g_same (fun K hR hl => lv_ishl hx hb (hd (Nat.succ_ne_zero _))  (K hR hl))
  | ishr =>
    simp only [g_stp] at h
    obtain ⟨x2, x1, t, e0, h9⟩ := g_pII_i h
    subst e0
    replace h := h9
    cases h; exact g_same (fun K hR hl => lv_ishr hx hb (hd (Nat.succ_ne_zero _))  (K hR hl))
  | iushr =>
    simp only [g_stp] at h
    obtain ⟨x2, x1, t, e0, h9⟩ := g_pII_i h
    subst e0
    replace h := h9
    cases h; exact g_same (fun K hR hl => lv_iushr hx hb (hd (Nat.succ_ne_zero _)) rfl (K hR hl))
  | idiv =>
    simp only [g_stp] at h
    obtain ⟨x2, x1, t, e0, h9⟩ := g_pII_i h
    subst e0
    replace h := h9
    split at h
    · next hc => cases h; exact g_same (fun K hR hl => lv_idiv hx hb (hd (Nat.succ_ne_zero _)) hc (K hR hl))
    · cases h
  | irem =>
    simp only [g_stp] at h
    obtain ⟨x2, x1, t, e0, h9⟩ := g_pII_i h
    subst e0
    replace h := h9
    split at h
    · next hc => cases h; exact g_same (fun K hR hl => lv_irem hx hb (hd (Nat.succ_ne_zero _)) hc (K hR hl))
    · cases h
  | ineg =>
    simp only [g_stp] at h
    obtain ⟨x, t, e0, h9⟩ := g_pI_i h
    subst e0
    replace h := h9
    cases h; exact g_same (fun K hR hl => lv_ineg hx hb (hd (Nat.succ_ne_zero _))  (K hR hl))
  | ladd =>
    simp only [g_stp] at h
    obtain ⟨x2, x1, t, e0, h9⟩ := g_pLL_i h
    subst e0
    replace h := h9
    cases h; exact g_same (fun K hR hl => lv_ladd hx hb (hd (Nat.succ_ne_zero _))  (K hR hl))
  | lmul =>
    simp only [g_stp] at h
    obtain ⟨x2, x1, t, e0, h9⟩ := g_pLL_i h
    subst e0
    replace h := h9
    cases h; exact g_same (fun K hR hl => lv_lmul hx hb (hd (Nat.succ_ne_zero _))  (K hR hl))
  | i2l =>
    simp only [g_stp] at h
    obtain ⟨x, t, e0, h9⟩ := g_pI_i h
    subst e0
    replace h := h9
    cases h; exact g_same (fun K hR hl => lv_i2l hx hb (hd (Nat.succ_ne_zero _)) rfl (K hR hl))
  | i2d =>
    simp only [g_stp] at h
    obtain ⟨x, t, e0, h9⟩ := g_pI_i h
    subst e0
    replace h := h9
    cases h; exact g_same (fun K hR hl => lv_i2d hx hb (hd (Nat.succ_ne_zero _))  (K hR hl))
  | lcmp =>
    simp only [g_stp] at h
    obtain ⟨x2, x1, t, e0, h9⟩ := g_pLL_i h
    subst e0
    replace h := h9
    cases h; exact g_same (fun K hR hl => W.lcmp hx hb (hd (Nat.succ_ne_zero _))  (K hR hl))
  | dcmp op =>
    simp only [g_stp] at h
    obtain ⟨x2, x1, t, e0, h9⟩ := g_pDD_i h
    subst e0
    replace h := h9
    cases h; exact g_same (fun K hR hl => lv_dcmp hx hb (hd (Nat.succ_ne_zero _))  (K hR hl))
  | ddiv =>
    simp only [g_stp] at h
    obtain ⟨x2, x1, t, e0, h9⟩ := g_pDD_i h
    subst e0
    replace h := h9
    split at h
    · next hc => cases h; exact g_same (fun K hR hl => lv_ddiv hx hb (hd (Nat.succ_ne_zero _)) hc (K hR hl))
    · cases h
  | dmul =>
    simp only [g_stp] at h
    obtain ⟨x2, x1, t, e0, h9⟩ := g_pDD_i h
    subst e0
    replace h := h9
    split at h
    · next hc => cases h; exact g_same (fun K hR hl => lv_dmul hx hb (hd (Nat.succ_ne_zero _)) hc (K hR hl))
    · cases h
  | dsub =>
    simp only [g_stp] at h
    obtain ⟨x2, x1, t, e0, h9⟩ := g_pDD_i h
    subst e0
    replace h := h9
    split at h
    · next hc => cases h; exact g_same (fun K hR hl => lv_dsub hx hb (hd (Nat.succ_ne_zero _)) hc (K hR hl))
    · cases h
  | dconst v =>
    simp only [g_stp] at h
    split at h
    · next hc => subst hc; cases h; exact g_same (fun K hR hl => lv_dconst0 hx hb (hd (Nat.succ_ne_zero _)) (K hR hl))
    · cases h
  | dup =>
    simp only [g_stp] at h
    obtain ⟨v, t, e0, h9⟩ := g_pV_i h
    subst e0
    replace h := h9
    split at h
    · next hc => cases h; exact g_same (fun K hR hl => lv_dup hx hb (hd (Nat.succ_ne_zero _)) ((g_tr_cat ρ v).trans hc) (K hR hl))
    · cases h
  | pop =>
    simp only [g_stp] at h
    obtain ⟨v, t, e0, h9⟩ := g_pV_i h
    subst e0
    replace h := h9
    split at h
    · next hc => cases h; exact g_same (fun K hR hl => lv_pop hx hb (hd (Nat.succ_ne_zero _)) ((g_tr_cat ρ v).trans hc) (K hR hl))
    · cases h
  | dup_x1 =>
    simp only [g_stp] at h
    obtain ⟨v2, v1, t, e0, h9⟩ := g_pVV_i h
    subst e0
    replace h := h9
    split at h
    · next hc => cases h; exact g_same (fun K hR hl => lv_dup_x1 hx hb (hd (Nat.succ_ne_zero _)) ((g_tr_cat ρ v2).trans hc.1) ((g_tr_cat ρ v1).trans hc.2) (K hR hl))
    · cases h
  | dup2 =>
    simp only [g_stp] at h
    obtain ⟨v2, v1, t, e0, h9⟩ := g_pVV_i h
    subst e0
    replace h := h9
    split at h
    · next hc => cases h; exact g_same (fun K hR hl => lv_dup2_11 hx hb (hd (Nat.succ_ne_zero _)) ((g_tr_cat ρ v2).trans hc.1) ((g_tr_cat ρ v1).trans hc.2) (K hR hl))
    · cases h
  | iload i =>
    simp only [g_stp] at h
    split at h
    · next x he => cases h; exact g_same (fun K hR hl => lv_iload hx hb (hd (Nat.succ_ne_zero _)) (g_ld hl he) (K hR hl))
    · cases h
  | iload_n i =>
    simp only [g_stp] at h
    split at h
    · next x he => cases h; exact g_same (fun K hR hl => lv_iload_n hx hb (hd (Nat.succ_ne_zero _)) rfl (g_ld hl he) (K hR hl))
    · cases h
  | lload i =>
    simp only [g_stp] at h
    split at h
    · next x he => cases h; exact g_same (fun K hR hl => lv_lload hx hb (hd (Nat.succ_ne_zero _)) (g_ld hl he) (K hR hl))
    · cases h
  | lload_n i =>
    simp only [g_stp] at h
    split at h
    · next x he => cases h; exact g_same (fun K hR hl => lv_lload_n hx hb (hd (Nat.succ_ne_zero _)) rfl (g_ld hl he) (K hR hl))
    · cases h
  | dload i =>
    simp only [g_stp] at h
    split at h
    · next x he => cases h; exact g_same (fun K hR hl => lv_dload hx hb (hd (Nat.succ_ne_zero _)) (g_ld hl he) (K hR hl))
    · cases h
  | dload_n i =>
    simp only [g_stp] at h
    split at h
    · next x he => cases h; exact g_same (fun K hR hl => lv_dload_n hx hb (hd (Nat.succ_ne_zero _)) rfl (g_ld hl he) (K hR hl))
    · cases h
  | aload i =>
    simp only [g_stp] at h
    split at h
    · next x he => cases h; exact g_same (fun K hR hl => lv_aload hx hb (hd (Nat.succ_ne_zero _)) (g_ld hl he) (K hR hl))
    · cases h
  | aload_n i =>
    simp only [g_stp] at h
    split at h
    · next x he => cases h; exact g_same (fun K hR hl => lv_aload_n hx hb (hd (Nat.succ_ne_zero _)) rfl (g_ld hl he) (K hR hl))
    · cases h
  | istore i =>
    simp only [g_stp] at h
    obtain ⟨x, t, e0, h9⟩ := g_pI_i h
    subst e0
    replace h := h9
    split at h
    · next hc => cases h; exact g_keep (fun K hR hl => lv_istore hx hb (hd (Nat.succ_ne_zero _)) hl hc (g_st1_tr ρ lv i (.int x)) (fun ls1 hl1 => K ls1 hR hl1))
    · cases h
  | istore_n i =>
    simp only [g_stp] at h
    obtain ⟨x, t, e0, h9⟩ := g_pI_i h
    subst e0
    replace h := h9
    split at h
    · next hc => cases h; exact g_keep (fun K hR hl => lv_istore_n hx hb (hd (Nat.succ_ne_zero _)) rfl hl hc (g_st1_tr ρ lv (i : Nat) (.int x)) (fun ls1 hl1 => K ls1 hR hl1))
    · cases h
  | lstore i =>
    simp only [g_stp] at h
    obtain ⟨x, t, e0, h9⟩ := g_pL_i h
    subst e0
    replace h := h9
    split at h
    · next hc => cases h; exact g_keep (fun K hR hl => lv_lstore hx hb (hd (Nat.succ_ne_zero _)) hl hc (g_st2_tr ρ lv i (.long x)) (fun ls1 hl1 => K ls1 hR hl1))
    · cases h
  | lstore_n i =>
    simp only [g_stp] at h
    obtain ⟨x, t, e0, h9⟩ := g_pL_i h
    subst e0
    replace h := h9
    split at h
    · next hc => cases h; exact g_keep (fun K hR hl => lv_lstore_n hx hb (hd (Nat.succ_ne_zero _)) rfl hl hc (g_st2_tr ρ lv (i : Nat) (.long x)) (fun ls1 hl1 => K ls1 hR hl1))
    · cases h
  | dstore i =>
    simp only [g_stp] at h
    obtain ⟨x, t, e0, h9⟩ := g_pD_i h
    subst e0
    replace h := h9
    split at h
    · next hc => cases h; exact g_keep (fun K hR hl => lv_dstore hx hb (hd (Nat.succ_ne_zero _)) hl hc (g_st2_tr ρ lv i (.double x)) (fun ls1 hl1 => K ls1 hR hl1))
    · cases h
  | dstore_n i =>
    simp only [g_stp] at h
    obtain ⟨x, t, e0, h9⟩ := g_pD_i h
    subst e0
    replace h := h9
    split at h
    · next hc => cases h; exact g_keep (fun K hR hl => lv_dstore_n hx hb (hd (Nat.succ_ne_zero _)) rfl hl hc (g_st2_tr ρ lv (i : Nat) (.double x)) (fun ls1 hl1 => K ls1 hR hl1))
    · cases h
  | astore i =>
    simp only [g_stp] at h
    obtain ⟨a, t, e0, h9⟩ := g_pR_i h
    subst e0
    replace h := h9
    split at h
    · next hc => cases h; exact g_keep (fun K hR hl => lv_astore hx hb (hd (Nat.succ_ne_zero _)) hl hc (g_st1_tr ρ lv i (.ref a)) (fun ls1 hl1 => K ls1 hR hl1))
    · cases h
  | astore_n i =>
    simp only [g_stp] at h
    obtain ⟨a, t, e0, h9⟩ := g_pR_i h
    subst e0
    replace h := h9
    split at h
    · next hc => cases h; exact g_keep (fun K hR hl => lv_astore_n hx hb (hd (Nat.succ_ne_zero _)) rfl hl hc (g_st1_tr ρ lv (i : Nat) (.ref a)) (fun ls1 hl1 => K ls1 hR hl1))
    · cases h
  | iinc i v =>
    simp only [g_stp] at h
    split at h
    · next x he =>
      split at h
      · next hc =>
        cases h
        refine g_keep (fun K hR hl => ?_)
        obtain ⟨k, hk⟩ := List.getElem?_of_mem (List.mem_map.mpr ⟨(i, .int x), g_lookup_mem he, rfl⟩ : (i, Value.int x) ∈ g_trL ρ lv)
        exact lv_iinc hx hb (hd (Nat.succ_ne_zero _)) hl hk rfl hc (g_st1_tr ρ lv i (.int (x + Int32.ofInt v))) (fun ls1 hl1 => K ls1 hR hl1)
      · cases h
    · cases h
  | ifCond cd off =>
    simp only [g_stp] at h
    obtain ⟨tg, ht, h⟩ := Option.bind_eq_some_iff.mp h
    have ht := g_tg_i ht
    obtain ⟨x, t, e0, h9⟩ := g_pI_i h
    subst e0
    replace h := h9
    cases h
    refine g_same (fun K hR hl => ?_)
    have k9 := K hR hl
    cases cd with
    | eq => exact lv_if_eq hx hb (hd (Nat.succ_ne_zero _)) ht (fun hq => by rw [if_pos (show g_c1 .eq x = true from decide_eq_true (by assumption))] at k9; exact k9) (fun hq => by rw [if_neg (show ¬ g_c1 .eq x = true from by simpa [g_c1, g_c2] using hq)] at k9; exact k9)
    | ne => exact lv_if_ne hx hb (hd (Nat.succ_ne_zero _)) ht (fun hq => by rw [if_pos (show g_c1 .ne x = true from decide_eq_true (by assumption))] at k9; exact k9) (fun hq => by rw [if_neg (show ¬ g_c1 .ne x = true from by simpa [g_c1, g_c2] using hq)] at k9; exact k9)
    | lt => exact lv_if_lt hx hb (hd (Nat.succ_ne_zero _)) ht (fun hq => by rw [if_pos (show g_c1 .lt x = true from decide_eq_true (by assumption))] at k9; exact k9) (fun hq => by rw [if_neg (show ¬ g_c1 .lt x = true from by simpa [g_c1, g_c2] using hq)] at k9; exact k9)
    | ge => exact lv_if_ge hx hb (hd (Nat.succ_ne_zero _)) ht (fun hq => by rw [if_pos (show g_c1 .ge x = true from decide_eq_true (by assumption))] at k9; exact k9) (fun hq => by rw [if_neg (show ¬ g_c1 .ge x = true from by simpa [g_c1, g_c2] using hq)] at k9; exact k9)
    | gt => exact lv_if_gt hx hb (hd (Nat.succ_ne_zero _)) ht (fun hq => by rw [if_pos (show g_c1 .gt x = true from decide_eq_true (by assumption))] at k9; exact k9) (fun hq => by rw [if_neg (show ¬ g_c1 .gt x = true from by simpa [g_c1, g_c2] using hq)] at k9; exact k9)
    | le => exact lv_if_le hx hb (hd (Nat.succ_ne_zero _)) ht (fun hq => by rw [if_pos (show g_c1 .le x = true from decide_eq_true (by assumption))] at k9; exact k9) (fun hq => by rw [if_neg (show ¬ g_c1 .le x = true from by simpa [g_c1, g_c2] using hq)] at k9; exact k9)
  | if_icmp cd off =>
    simp only [g_stp] at h
    obtain ⟨tg, ht, h⟩ := Option.bind_eq_some_iff.mp h
    have ht := g_tg_i ht
    obtain ⟨x2, x1, t, e0, h9⟩ := g_pII_i h
    subst e0
    replace h := h9
    cases h
    refine g_same (fun K hR hl => ?_)
    have k9 := K hR hl
    cases cd with
    | eq => exact lv_icmp_eq hx hb (hd (Nat.succ_ne_zero _)) ht (fun hq => by rw [if_pos (show g_c2 .eq x1 x2 = true from decide_eq_true (by assumption))] at k9; exact k9) (fun hq => by rw [if_neg (show ¬ g_c2 .eq x1 x2 = true from by simpa [g_c1, g_c2] using hq)] at k9; exact k9)
    | ne => exact lv_icmp_ne hx hb (hd (Nat.succ_ne_zero _)) ht (fun hq => by rw [if_pos (show g_c2 .ne x1 x2 = true from decide_eq_true (by assumption))] at k9; exact k9) (fun hq => by rw [if_neg (show ¬ g_c2 .ne x1 x2 = true from by simpa [g_c1, g_c2] using hq)] at k9; exact k9)
    | lt => exact lv_icmp_lt hx hb (hd (Nat.succ_ne_zero _)) ht (fun hq => by rw [if_pos (show g_c2 .lt x1 x2 = true from decide_eq_true (by assumption))] at k9; exact k9) (fun hq => by rw [if_neg (show ¬ g_c2 .lt x1 x2 = true from by simpa [g_c1, g_c2] using hq)] at k9; exact k9)
    | ge => exact lv_icmp_ge hx hb (hd (Nat.succ_ne_zero _)) ht (fun hq => by rw [if_pos (show g_c2 .ge x1 x2 = true from decide_eq_true (by assumption))] at k9; exact k9) (fun hq => by rw [if_neg (show ¬ g_c2 .ge x1 x2 = true from by simpa [g_c1, g_c2] using hq)] at k9; exact k9)
    | gt => exact lv_icmp_gt hx hb (hd (Nat.succ_ne_zero _)) ht (fun hq => by rw [if_pos (show g_c2 .gt x1 x2 = true from decide_eq_true (by assumption))] at k9; exact k9) (fun hq => by rw [if_neg (show ¬ g_c2 .gt x1 x2 = true from by simpa [g_c1, g_c2] using hq)] at k9; exact k9)
    | le => exact lv_icmp_le hx hb (hd (Nat.succ_ne_zero _)) ht (fun hq => by rw [if_pos (show g_c2 .le x1 x2 = true from decide_eq_true (by assumption))] at k9; exact k9) (fun hq => by rw [if_neg (show ¬ g_c2 .le x1 x2 = true from by simpa [g_c1, g_c2] using hq)] at k9; exact k9)
  | goto off =>
    simp only [g_stp] at h
    obtain ⟨tg, ht, h⟩ := Option.bind_eq_some_iff.mp h
    cases h
    exact g_same (fun K hR hl => lv_goto hx hb (hd (Nat.succ_ne_zero _)) (g_tg_i ht) (K hR hl))
  | ifnull off =>
    simp only [g_stp] at h
    obtain ⟨tg, ht, h⟩ := Option.bind_eq_some_iff.mp h
    obtain ⟨v, t, e0, h9⟩ := g_pV_i h
    subst e0
    replace h := h9
    cases v with
    | ref a => cases h; exact g_same (fun K hR hl => lv_ifnull hx hb (hd (Nat.succ_ne_zero _)) (K hR hl))
    | null => cases h; exact g_same (fun K hR hl => lv_ifnullN hx hb (hd (Nat.succ_ne_zero _)) (g_tg_i ht) (K hR hl))
    | _ => cases h
  | ifnonnull off =>
    simp only [g_stp] at h
    obtain ⟨tg, ht, h⟩ := Option.bind_eq_some_iff.mp h
    obtain ⟨v, t, e0, h9⟩ := g_pV_i h
    subst e0
    replace h := h9
    cases v with
    | ref a => cases h; exact g_same (fun K hR hl => lv_ifnonnull hx hb (hd (Nat.succ_ne_zero _)) (g_tg_i ht) (K hR hl))
    | null => cases h; exact g_same (fun K hR hl => lv_ifnonnullN hx hb (hd (Nat.succ_ne_zero _)) (K hR hl))
    | _ => cases h
  | tableswitch df lo hi offs =>
    simp only [g_stp] at h
    obtain ⟨x, t, e0, h9⟩ := g_pI_i h
    subst e0
    replace h := h9
    split at h
    · next hc =>
      obtain ⟨tg, ht, h⟩ := Option.bind_eq_some_iff.mp h
      cases h
      exact g_same (fun K hR hl => lv_tableOut hx hb hdn hc (g_tg_i ht) (K hR hl))
    · next hc =>
      obtain ⟨off, ho, h⟩ := Option.bind_eq_some_iff.mp h
      obtain ⟨tg, ht, h⟩ := Option.bind_eq_some_iff.mp h
      cases h
      exact g_same (fun K hR hl => lv_tableIn hx hb hdn (fun q => hc (Or.inl q)) (fun q => hc (Or.inr q)) ho (g_tg_i ht) (K hR hl))
  | ldc ix =>
    simp only [g_stp] at h
    split at h
    · next x j he => cases h; exact g_same (fun K hR hl => lv_ldc hx hb hown (g_w hts (gv_cs_int he)) (hd (Nat.succ_ne_zero _)) (K hR hl))
    · cases h
  | ldc_w ix =>
    simp only [g_stp] at h
    split at h
    · next x j he => cases h; exact g_same (fun K hR hl => lv_ldcw hx hb hown (g_w hts (gv_cs_int he)) (hd (Nat.succ_ne_zero _)) (K hR hl))
    · cases h
  | ldc2_w ix =>
    simp only [g_stp] at h
    split at h
    · next x j he => cases h; exact g_same (fun K hR hl => lv_ldc2 hx hb hown (g_w hts (gv_cs_long he)) (hd (Nat.succ_ne_zero _)) (K hR hl))
    · next x j he => cases h; exact g_same (fun K hR hl => lv_ldc2d hx hb hown (g_w hts (gv_cs_double he)) (hd (Nat.succ_ne_zero _)) (K hR hl))
    · cases h
  | getfield ix =>
    simp only [g_stp] at h
    split at h
    · cases h
    · next ci k j host ref hf =>
      obtain ⟨a, t, e0, h9⟩ := g_pR_i h
      subst e0
      replace h := h9
      split at h
      · next cj fs he =>
        split at h
        · next hc =>
          subst hc
          obtain ⟨v, hv, h⟩ := Option.bind_eq_some_iff.mp h
          cases h
          refine g_same (fun K hR hl => ?_)
          obtain ⟨hci, hk, hrf, hw⟩ := g_fl_ok hf
          obtain ⟨ha, he⟩ := g_rd_i he
          obtain ⟨hP, hD, hS, ⟨tys, hKt, hT⟩, hWF, h0, h1⟩ := id hR
          obtain ⟨q0, hq, -⟩ := g_at (cA := cA) (ρ := ρ) ha he
          have hv2 : (fs.map (g_tr ρ))[k]? = some (g_tr ρ v) := by rw [List.getElem?_map, hv]; rfl
          have hsame := g_same_f (args := args) hts hrf
          cases host with
          | none => exact va_get hx hb (Ts := u_ws (g_cl cj).1 (g_cl cj).2.1 (g_cl cj).2.2) (fun w hw => g_gw_moved (State.WarmedH.refl s) ((g_cl_ok hci).1 w hw).2 (hts w ((g_cl_ok hci).1 w hw).1 ((g_cl_ok hci).1 w hw).2)) (fun w h => h) hown hKt hP q0 hq (g_cl_at hci) k hk (g_w hts (gp_w_ok hw)) hsame hv2 (hd (Nat.succ_ne_zero _)) (K hR hl)
          | some host => exact va_getN hx hb (Ts := u_ws (g_cl cj).1 (g_cl cj).2.1 (g_cl cj).2.2) (fun w hw => g_gw_moved (State.WarmedH.refl s) ((g_cl_ok hci).1 w hw).2 (hts w ((g_cl_ok hci).1 w hw).1 ((g_cl_ok hci).1 w hw).2)) (fun w h => h) hown hKt hP q0 hq (g_cl_at hci) k hk (g_w hts (gp_w_ok hw)) hsame hv2 (hd (Nat.succ_ne_zero _)) (K hR hl)
        · cases h
      · cases h
  | putfield ix =>
    simp only [g_stp] at h
    split at h
    · cases h
    · next ci k j host ref hf =>
      obtain ⟨v, a, t, e0, h9⟩ := g_pRV_i h
      subst e0
      replace h := h9
      split at h
      · next cj fs he =>
        split at h
        · next hc =>
          obtain ⟨hcj, hlen, hput, hokv, hpf⟩ := hc
          subst hcj
          cases h
          obtain ⟨hci, hk, hrf, hw⟩ := g_fl_ok hf
          obtain ⟨ha, he⟩ := g_rd_i he
          refine g_write (fun hWF => ?_) (fun tys _ t x hx => by cases hx) (fun K hR hl => ?_)
          · intro v' hv'
            rcases List.mem_or_eq_of_mem_set hv' with h9 | h9
            · exact hWF a ha _ he v' h9
            · rw [h9]; exact hokv
          · obtain ⟨hP, hD, hS, ⟨tys, hKt, hT⟩, hWF, h0, h1⟩ := id hR
            obtain ⟨q0, hq, hset⟩ := g_at (cA := cA) (ρ := ρ) ha he
            have hset := hset (.inl (cj, fs.set k v))
            have e9 : g_trE cA ρ (.inl (cj, fs.set k v)) = .inr (cj, (fs.map (g_tr ρ)).set k (g_tr ρ v)) := by
              show Sum.inr (cj, (fs.set k v).map (g_tr ρ)) = _
              rw [List.map_set]
            rw [e9] at hset
            have hsame := g_same_f (args := args) hts hrf
            have hT1 := (g_cl_ok hci)
            have hpt := g_put_tr hput ρ
            have hlen2 : k < (fs.map (g_tr ρ)).length := by rw [List.length_map]; exact hlen
            cases hfin : ((g_cl cj).2.1 k).2.2.2 with
            | false =>
              cases host with
              | none => exact va_put hx hb (Ts := u_ws (g_cl cj).1 (g_cl cj).2.1 (g_cl cj).2.2) (fun w hw => g_gw_moved (State.WarmedH.refl s) (hT1.1 w hw).2 (hts w (hT1.1 w hw).1 (hT1.1 w hw).2)) (fun w h => h) (g_ft cj) hT1.2.1 hT1.2.2 hown hKt hP hD hS q0 hq (g_cl_at hci) k hk (g_w hts (gp_w_ok hw)) hsame hfin (hT1.2.1 k hk) hpt.1 hpt.2 hlen2 (hd (Nat.succ_ne_zero _)) (fun H1 locs1 hP1 hD1 hS1 => K H1 locs1 (by rw [← hset]; exact hP1) (by rw [← hset]; exact hD1) hS1)
              | some host => exact va_putN hx hb (Ts := u_ws (g_cl cj).1 (g_cl cj).2.1 (g_cl cj).2.2) (fun w hw => g_gw_moved (State.WarmedH.refl s) (hT1.1 w hw).2 (hts w (hT1.1 w hw).1 (hT1.1 w hw).2)) (fun w h => h) (g_ft cj) hT1.2.1 hT1.2.2 hown hKt hP hD hS q0 hq (g_cl_at hci) k hk (g_w hts (gp_w_ok hw)) hsame hfin (hT1.2.1 k hk) hpt.1 hpt.2 hlen2 (hd (Nat.succ_ne_zero _)) (fun H1 locs1 hP1 hD1 hS1 => K H1 locs1 (by rw [← hset]; exact hP1) (by rw [← hset]; exact hD1) hS1)
            | true =>
              simp only [g_pf, hfin, Bool.not_true, Bool.false_or, Bool.and_eq_true, beq_iff_eq] at hpf
              cases host with
              | none => exact va_putF hx hb (Ts := u_ws (g_cl cj).1 (g_cl cj).2.1 (g_cl cj).2.2) (fun w hw => g_gw_moved (State.WarmedH.refl s) (hT1.1 w hw).2 (hts w (hT1.1 w hw).1 (hT1.1 w hw).2)) (fun w h => h) (g_ft cj) hT1.2.1 hT1.2.2 hown hKt hP hD hS q0 hq (g_cl_at hci) k hk (g_w hts (gp_w_ok hw)) hsame hfin (hnm hpf.1) hpf.2.1 (hT1.2.1 k hk) hpt.1 hpt.2 hlen2 (hd (Nat.succ_ne_zero _)) (fun H1 locs1 hP1 hD1 hS1 => K H1 locs1 (by rw [← hset]; exact hP1) (by rw [← hset]; exact hD1) hS1)
              | some host => cases hpf.2.2
        · cases h
      · cases h
  | new ix =>
    simp only [g_stp] at h
    split at h
    · cases h
    · next ci j j1 j2 hf =>
      split at h
      · next hc =>
        cases h
        obtain ⟨hci, hw1, hw2, hw3⟩ := g_nw_ok hf
        refine g_make (Nat.le_succ _) (Nat.le_add_right _ _) hc.1 hc.2 (g_df_ok _ _) (fun hc9 hd9 K hR hl => ?_)
        obtain ⟨hP, hD, hS, ⟨tys, hKt, hT⟩, hWF, h0, h1⟩ := id hR
        have e9 : g_trE cA ρ (.inl (ci, g_df ci)) = .inr (ci, g_df ci) := by
          show Sum.inr (ci, (g_df ci).map (g_tr ρ)) = _
          rw [g_df_tr]
        have hT1 := (g_cl_ok hci)
        exact va_new hx hb (Ts := u_ws (g_cl ci).1 (g_cl ci).2.1 (g_cl ci).2.2) (fun w hw => g_gw_moved (State.WarmedH.refl s) (hT1.1 w hw).2 (hts w (hT1.1 w hw).1 (hT1.1 w hw).2)) (fun w h => h) (g_ft ci) hT1.2.1 hown (g_w hts (gp_w_ok hw1)) (g_w hts (gp_w_ok hw2)) (g_w hts (gp_w_ok hw3)) hKt hP hD hS hA (g_cl_at hci) (g_df_at ci) hc9 hd9 (hd (Nat.succ_ne_zero _)) (fun q H1 hP1 hD1 hS1 => K q H1 tys [] hKt hT (by rw [List.append_nil]; exact hKt) (fun t x hx => by cases hx) (by rw [e9]; exact hP1) (by rw [e9]; exact hD1) hS1)
      · cases h
  | newarray at_ =>
    simp only [g_stp] at h
    obtain ⟨x, t, e0, h9⟩ := g_pI_i h
    subst e0
    replace h := h9
    split at h
    · next hc =>
      obtain ⟨hn, hbig, hlv, hst9⟩ := hc
      cases at_ with
      | int =>
        dsimp only at h
        cases h
        refine g_make (Nat.le_succ _) (Nat.le_add_right _ _) hlv hst9 trivial (fun hc9 hd9 K hR hl => ?_)
        obtain ⟨hP, hD, hS, ⟨tys, hKt, hT⟩, hWF, h0, h1⟩ := id hR
        exact va_newa (atype := .int) (ty := .int) hx hb (g_w hts (gp_w_ok gv_acI)) rfl hKt hP hD hS hA (a0 := (x.toNatClampNeg, .inl (fun _ => 0))) (fun _ => rfl) hn rfl (show x.toNatClampNeg * componentBytes .int ≤ 536870912 from Nat.le_trans (Nat.mul_le_mul_right _ hbig) (Nat.le_of_ble_eq_true rfl)) hc9 hd9 (hd (Nat.succ_ne_zero _)) (fun q cB H1 hK1 hP1 hD1 hS1 => by
          have hcB : cB = cA 0 := hcA 0 .int cB rfl (hK1.2 tys.length (cB, .int) (by simp)).2
          subst hcB
          exact K q H1 tys [(cA 0, .int)] hKt hT hK1 (fun t x hx => by cases hx; exact ⟨tys.length, .int, rfl, by simp⟩) hP1 hD1 hS1)
      | _ => cases h
    · cases h
  | anewarray ix =>
    simp only [g_stp] at h
    split at h
    · cases h
    · next tg j j1 hf =>
      obtain ⟨x, t, e0, h9⟩ := g_pI_i h
      subst e0
      replace h := h9
      split at h
      · next hc =>
        obtain ⟨hn, hbig, hlv, hst9⟩ := hc
        cases h
        obtain ⟨C, hC, hw1⟩ := g_an_ok hf
        refine g_make (Nat.le_succ _) (Nat.le_add_right _ _) hlv hst9 (fun i k hk => by cases hk) (fun hc9 hd9 K hR hl => ?_)
        obtain ⟨hP, hD, hS, ⟨tys, hKt, hT⟩, hWF, h0, h1⟩ := id hR
        exact va_newq hx hb hown (g_w hts (gp_w_ok hw1)) (hAO tg C hC) hKt hP hD hS hA hn rfl (Nat.le_trans (Nat.mul_le_mul_right _ hbig) (Nat.le_of_ble_eq_true rfl)) hc9 hd9 (hd (Nat.succ_ne_zero _)) (fun q cB H1 hK1 hP1 hD1 hS1 => by
          have hcB : cB = cA tg := hcA tg (.object C) cB hC (hK1.2 tys.length (cB, .object C) (by simp)).2
          subst hcB
          exact K q H1 tys [(cA tg, .object C)] hKt hT hK1 (fun t x hx => by cases hx; exact ⟨tys.length, .object C, hC, by simp⟩) hP1 hD1 hS1)
      · cases h
  | arraylength =>
    simp only [g_stp] at h
    obtain ⟨a, t, e0, h9⟩ := g_pR_i h
    subst e0
    replace h := h9
    split at h
    · next ha0 =>
      subst ha0
      cases h
      refine g_same (fun K hR hl => ?_)
      obtain ⟨hP, hD, hS, ⟨tys, hKt, hT⟩, hWF, h0, h1⟩ := id hR
      have k9 : W p l e R s m args below meth cc H locs c d Q (F0 m pc ls (.ref b :: t.map (g_tr ρ))) := va_slen hx hb hX hbl hbA hS (hd (Nat.succ_ne_zero _)) (K hR hl)
      rw [← h0] at k9
      exact k9
    · next ha0 =>
      split at h
      · next tg nn x he =>
        cases h
        refine g_same (fun K hR hl => ?_)
        obtain ⟨ha, he⟩ := g_rd_i he
        obtain ⟨hP, hD, hS, ⟨tys, hKt, hT⟩, hWF, h0, h1⟩ := id hR
        obtain ⟨q0, hq, -⟩ := g_at (cA := cA) (ρ := ρ) ha he
        obtain ⟨t0, ty, -, ht0⟩ := hT a tg _ ha he
        have hlen : Int32.ofNat (g_trA (cA tg) ρ (nn, x)).2.1 = Int32.ofNat nn := by
          rcases x with f | f | f <;> rfl
        exact va_alen hx hb hKt hP q0 t0 (cA := (g_trA (cA tg) ρ (nn, x)).1) (x := (g_trA (cA tg) ρ (nn, x)).2) hq (ty := ty) (by rcases x with f | f | f <;> exact ht0) hlen (hd (Nat.succ_ne_zero _)) (K hR hl)
      · cases h
  | iaload =>
    simp only [g_stp] at h
    obtain ⟨i, a, t, e0, h9⟩ := g_pRI_i h
    subst e0
    replace h := h9
    split at h
    · next ha0 =>
      subst ha0
      split at h
      · next hin =>
        cases h
        refine g_same (fun K hR hl => ?_)
        obtain ⟨hP, hD, hS, ⟨tys, hKt, hT⟩, hWF, h0, h1⟩ := id hR
        have k9 : W p l e R s m args below meth cc H locs c d Q (F0 m pc ls (.int i :: .ref b :: t.map (g_tr ρ))) := va_sld hx hb hX hbl hbA hS (g_ix_i hin) (hd (Nat.succ_ne_zero _)) (K hR hl)
        rw [← h0] at k9
        exact k9
      · cases h
    · next ha0 =>
      split at h
      · next nn f he =>
        split at h
        · next hin =>
          cases h
          refine g_same (fun K hR hl => ?_)
          obtain ⟨ha, he⟩ := g_rd_i he
          obtain ⟨hP, hD, hS, ⟨tys, hKt, hT⟩, hWF, h0, h1⟩ := id hR
          obtain ⟨q0, hq, -⟩ := g_at (cA := cA) (ρ := ρ) ha he
          obtain ⟨t0, ty, hty, ht0⟩ := hT a 0 _ ha he
          cases hty
          exact va_iald hx hb hKt hP q0 t0 hq ht0 (g_ix_i hin) (hd (Nat.succ_ne_zero _)) (K hR hl)
        · cases h
      · cases h
  | laload =>
    simp only [g_stp] at h
    obtain ⟨i, a, t, e0, h9⟩ := g_pRI_i h
    subst e0
    replace h := h9
    split at h
    · next nn f he =>
      split at h
      · next hin =>
        cases h
        refine g_same (fun K hR hl => ?_)
        obtain ⟨ha, he⟩ := g_rd_i he
        obtain ⟨hP, hD, hS, ⟨tys, hKt, hT⟩, hWF, h0, h1⟩ := id hR
        obtain ⟨q0, hq, -⟩ := g_at (cA := cA) (ρ := ρ) ha he
        obtain ⟨t0, ty, hty, ht0⟩ := hT a 1 _ ha he
        cases hty
        exact va_lald hx hb hKt hP q0 t0 hq ht0 (g_ix_i hin) (hd (Nat.succ_ne_zero _)) (K hR hl)
      · cases h
    · cases h
  | aaload =>
    simp only [g_stp] at h
    obtain ⟨i, a, t, e0, h9⟩ := g_pRI_i h
    subst e0
    replace h := h9
    split at h
    · next tg nn f he =>
      split at h
      · next hin =>
        cases h
        refine g_same (fun K hR hl => ?_)
        obtain ⟨ha, he⟩ := g_rd_i he
        obtain ⟨hP, hD, hS, ⟨tys, hKt, hT⟩, hWF, h0, h1⟩ := id hR
        obtain ⟨q0, hq, -⟩ := g_at (cA := cA) (ρ := ρ) ha he
        obtain ⟨t0, ty, hty, ht0⟩ := hT a tg _ ha he
        have hob := hin.2
        unfold g_obj at hob
        rw [hty] at hob
        cases ty with
        | object C =>
          have k9 := K hR hl
          rw [List.map_cons, ← g_rf_tr] at k9
          exact va_aldq hx hb hKt hP q0 t0 hq ht0 (g_ix_i hin.1) (hd (Nat.succ_ne_zero _)) k9
        | _ => cases hob
      · cases h
    · cases h
  | iastore =>
    simp only [g_stp] at h
    obtain ⟨x, i, a, t, e0, h9⟩ := g_pRII_i h
    subst e0
    replace h := h9
    split at h
    · next nn f he =>
      split at h
      · next hin =>
        cases h
        obtain ⟨ha, he⟩ := g_rd_i he
        refine g_write (fun _ => trivial) (fun tys hT t' x' hx' => by cases hx'; exact hT a 0 _ ha he) (fun K hR hl => ?_)
        obtain ⟨hP, hD, hS, ⟨tys, hKt, hT⟩, hWF, h0, h1⟩ := id hR
        obtain ⟨q0, hq, hset⟩ := g_at (cA := cA) (ρ := ρ) ha he
        have hset := hset (.inr (0, nn, .inl (upd f i.toNatClampNeg x)))
        obtain ⟨t0, ty, hty, ht0⟩ := hT a 0 _ ha he
        cases hty
        exact va_iast hx hb hKt hP hD hS q0 t0 hq ht0 (g_ix_i hin) (hd (Nat.succ_ne_zero _)) (fun H1 locs1 hP1 hD1 hS1 => K H1 locs1 (by rw [← hset]; exact hP1) (by rw [← hset]; exact hD1) hS1)
      · cases h
    · cases h
  | lastore =>
    simp only [g_stp] at h
    obtain ⟨x, i, a, t, e0, h9⟩ := g_pRIL_i h
    subst e0
    replace h := h9
    split at h
    · next nn f he =>
      split at h
      · next hin =>
        cases h
        obtain ⟨ha, he⟩ := g_rd_i he
        refine g_write (fun _ => trivial) (fun tys hT t' x' hx' => by cases hx'; exact hT a 1 _ ha he) (fun K hR hl => ?_)
        obtain ⟨hP, hD, hS, ⟨tys, hKt, hT⟩, hWF, h0, h1⟩ := id hR
        obtain ⟨q0, hq, hset⟩ := g_at (cA := cA) (ρ := ρ) ha he
        have hset := hset (.inr (1, nn, .inr (.inl (vp_updL f i.toNatClampNeg x))))
        obtain ⟨t0, ty, hty, ht0⟩ := hT a 1 _ ha he
        cases hty
        exact va_last hx hb hKt hP hD hS q0 t0 hq ht0 (g_ix_i hin) (hd (Nat.succ_ne_zero _)) (fun H1 locs1 hP1 hD1 hS1 => K H1 locs1 (by rw [← hset]; exact hP1) (by rw [← hset]; exact hD1) hS1)
      · cases h
    · cases h
  | aastore =>
    simp only [g_stp] at h
    obtain ⟨v, i, a, t, e0, h9⟩ := g_pRIR_i h
    subst e0
    replace h := h9
    split at h
    · next tg nn f ci fs he hv =>
      split at h
      · next hin =>
        cases h
        obtain ⟨hin, htg, hci⟩ := hin
        obtain ⟨ha, he⟩ := g_rd_i he
        obtain ⟨hv1, hv⟩ := g_rd_i hv
        refine g_write (fun hWF => ?_) (fun tys hT t' x' hx' => by cases hx'; exact hT a tg _ ha he) (fun K hR hl => ?_)
        · intro j k hk
          unfold va_up at hk
          split at hk
          · cases hk; exact hv1
          · exact hWF a ha _ he j k hk
        · obtain ⟨hP, hD, hS, ⟨tys, hKt, hT⟩, hWF, h0, h1⟩ := id hR
          obtain ⟨q0, hq, hset⟩ := g_at (cA := cA) (ρ := ρ) ha he
          obtain ⟨qk, hqk, -⟩ := g_at (cA := cA) (ρ := ρ) hv1 hv
          have hset := hset (.inr (tg, nn, .inr (.inr (va_up f i.toNatClampNeg (some v)))))
          have e9 : g_trE cA ρ (.inr (tg, nn, .inr (.inr (va_up f i.toNatClampNeg (some v))))) = .inl (cA tg, nn, .inr (.inr (.inr (.inr (va_up (fun j => (f j).map ρ) i.toNatClampNeg (some (ρ v))))))) := by
            show Sum.inl (cA tg, nn, Sum.inr (Sum.inr (Sum.inr (Sum.inr (fun j => (va_up f i.toNatClampNeg (some v) j).map ρ))))) = _
            have : (fun j => (va_up f i.toNatClampNeg (some v) j).map ρ) = va_up (fun j => (f j).map ρ) i.toNatClampNeg (some (ρ v)) := funext fun j => by
              unfold va_up
              split <;> rfl
            rw [this]
          rw [e9] at hset
          obtain ⟨t0, ty, hty, ht0⟩ := hT a tg _ ha he
          cases hty.symm.trans htg
          exact va_astq hx hb hKt hP hD hS q0 t0 qk ci hq ht0 hqk (g_cl_at hci) (g_ix_i hin) (hd (Nat.succ_ne_zero _)) (fun H1 locs1 hP1 hD1 hS1 => K H1 locs1 (by rw [← hset]; exact hP1) (by rw [← hset]; exact hD1) hS1)
      · cases h
    · cases h
  | invokestatic ix =>
    simp only [g_stp] at h
    split at h
    · next z na rest hf =>
      obtain ⟨ci, j, j1, j2, j3, host⟩ := rest
      obtain ⟨x2, x1, t, e0, h9⟩ := g_pII_i h
      subst e0
      replace h := h9
      split at h
      · next hc =>
        cases h
        have hw := g_look gv_iv hf
        simp only [gp_iv, if_neg (show ¬ (101 : Nat) = 100 by decide), if_pos, Bool.and_eq_true] at hw
        refine g_sameC (fun hc9 hd9 K hR hl => ?_)
        exact (va_mmax hx hb (hml.trans hl.1.symm) hown (g_w hts (gp_w_ok hw.1)) (g_w hts (gp_w_ok hw.2.1)) (g_w hts (gp_w_ok hw.2.2.2)) (g_w hts (gp_w_ok hw.2.2.1)) (Nat.le_trans hc.2.1 hfr) (Nat.le_trans (by rw [g_cats]; omega) hlo) hc9 hd9 (hd (Nat.succ_ne_zero _)) (K hR hl))
      · cases h
    · next z na rest hf =>
      obtain ⟨ci, j, j1, j2, j3, host⟩ := rest
      obtain ⟨x2, x1, t, e0, h9⟩ := g_pII_i h
      subst e0
      replace h := h9
      split at h
      · next hc =>
        cases h
        have hw := g_look gv_iv hf
        simp only [gp_iv, if_neg (show ¬ (102 : Nat) = 100 by decide), if_neg (show ¬ (102 : Nat) = 101 by decide), if_pos, Bool.and_eq_true] at hw
        refine g_sameC (fun hc9 hd9 K hR hl => ?_)
        exact (va_mmin hx hb (hml.trans hl.1.symm) hown (g_w hts (gp_w_ok hw.1)) (g_w hts (gp_w_ok hw.2.1)) (g_w hts (gp_w_ok hw.2.2.2)) (g_w hts (gp_w_ok hw.2.2.1)) (Nat.le_trans hc.2.1 hfr) (Nat.le_trans (by rw [g_cats]; omega) hlo) hc9 hd9 (hd (Nat.succ_ne_zero _)) (K hR hl))
      · cases h
    · next z na rest hf =>
      obtain ⟨ci, j, j1, j2, j3, host⟩ := rest
      obtain ⟨x, t, e0, h9⟩ := g_pD_i h
      subst e0
      replace h := h9
      split at h
      · next hc =>
        cases h
        have hw := g_look gv_iv hf
        simp only [gp_iv, if_neg (show ¬ (107 : Nat) = 100 by decide), if_neg (show ¬ (107 : Nat) = 101 by decide), if_neg (show ¬ (107 : Nat) = 102 by decide), if_neg (show ¬ (107 : Nat) = 103 by decide), if_pos, Bool.and_eq_true] at hw
        refine g_same (fun K hR hl => ?_)
        exact ga_abs hx hb (hml.trans hl.1.symm) hown (g_w hts (gp_w_ok hw.1)) (g_w hts (gp_w_ok hw.2.1)) (g_w hts (gp_w_ok hw.2.2.2)) (g_w hts (gp_w_ok hw.2.2.1)) hc.1 (Nat.le_trans hc.2.2.1 hfr) (Nat.le_trans (by rw [g_cats]; omega) hlo) (hd (Nat.succ_ne_zero _)) (K hR hl)
      · cases h
    · next z na rest hf =>
      obtain ⟨ci, j, j1, j2, j3, host⟩ := rest
      obtain ⟨x, t, e0, h9⟩ := g_pI_i h
      subst e0
      replace h := h9
      split at h
      · next hc =>
        cases h
        have hw := g_look gv_iv hf
        simp only [gp_iv, if_neg (show ¬ (103 : Nat) = 100 by decide), if_neg (show ¬ (103 : Nat) = 101 by decide), if_neg (show ¬ (103 : Nat) = 102 by decide), if_pos, Bool.and_eq_true] at hw
        refine g_sameC (fun hc9 hd9 K hR hl => ?_)
        exact (va_mabs hx hb (hml.trans hl.1.symm) hown (g_w hts (gp_w_ok hw.1)) (g_w hts (gp_w_ok hw.2.1)) (g_w hts (gp_w_ok hw.2.2.2)) (g_w hts (gp_w_ok hw.2.2.1)) (Nat.le_trans hc.2.1 hfr) (Nat.le_trans (by rw [g_cats]; omega) hlo) hc9 hd9 (hd (Nat.succ_ne_zero _)) (K hR hl))
      · cases h
    · cases h
  | invokespecial ix =>
    simp only [g_stp] at h
    split at h
    · next z na rest hf =>
      obtain ⟨ci, j, j1, j2, j3, host⟩ := rest
      obtain ⟨a, t, e0, h9⟩ := g_pR_i h
      subst e0
      replace h := h9
      split at h
      · next hc =>
        cases h
        have hw := g_look gv_iv hf
        simp only [gp_iv, if_pos, Bool.and_eq_true] at hw
        refine g_same (fun K hR hl => ?_)
        exact W.objInit hx hb hown (g_w hts (gp_w_ok hw.1)) (g_w hts (gp_w_ok hw.2.1)) (g_w hts (gp_w_ok hw.2.2)) rfl (hl.1.trans hml.symm) rfl (hd (Nat.succ_ne_zero _)) (Nat.le_trans hc.2.1 hfr) (Nat.le_trans (by show 2 * 0 + _ + 12 ≤ _; rw [g_cats]; omega) hlo) (K hR hl)
      · cases h
    · cases h
  | _ => cases h
end GS
