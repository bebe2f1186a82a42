def s_pI {α : Type} (st : List sV) (F : Int32 → List sV → Option α) : Option α := match st with
  | .inl (.int x) :: t => F x t
  | _ => none
theorem s_pI_i {α : Type} {st : List sV} {F : Int32 → List sV → Option α} {r : α} (h : s_pI st F = some r) : ∃ (x : Int32) (t : List sV), st = .inl (.int x) :: t ∧ F x t = some r := by
  unfold s_pI at h
  split at h
  · exact ⟨_, _, rfl, h⟩
  · cases h
def s_pII {α : Type} (st : List sV) (F : Int32 → Int32 → List sV → Option α) : Option α := match st with
  | .inl (.int x2) :: .inl (.int x1) :: t => F x2 x1 t
  | _ => none
theorem s_pII_i {α : Type} {st : List sV} {F : Int32 → Int32 → List sV → Option α} {r : α} (h : s_pII st F = some r) : ∃ (x2 : Int32) (x1 : Int32) (t : List sV), st = .inl (.int x2) :: .inl (.int x1) :: t ∧ F x2 x1 t = some r := by
  unfold s_pII at h
  split at h
  · exact ⟨_, _, _, rfl, h⟩
  · cases h
def s_pL {α : Type} (st : List sV) (F : Int64 → List sV → Option α) : Option α := match st with
  | .inl (.long x) :: t => F x t
  | _ => none
theorem s_pL_i {α : Type} {st : List sV} {F : Int64 → List sV → Option α} {r : α} (h : s_pL st F = some r) : ∃ (x : Int64) (t : List sV), st = .inl (.long x) :: t ∧ F x t = some r := by
  unfold s_pL at h
  split at h
  · exact ⟨_, _, rfl, h⟩
  · cases h
def s_pLL {α : Type} (st : List sV) (F : Int64 → Int64 → List sV → Option α) : Option α := match st with
  | .inl (.long x2) :: .inl (.long x1) :: t => F x2 x1 t
  | _ => none
theorem s_pLL_i {α : Type} {st : List sV} {F : Int64 → Int64 → List sV → Option α} {r : α} (h : s_pLL st F = some r) : ∃ (x2 : Int64) (x1 : Int64) (t : List sV), st = .inl (.long x2) :: .inl (.long x1) :: t ∧ F x2 x1 t = some r := by
  unfold s_pLL at h
  split at h
  · exact ⟨_, _, _, rfl, h⟩
  · cases h
def s_pD {α : Type} (st : List sV) (F : UInt64 → List sV → Option α) : Option α := match st with
  | .inl (.double x) :: t => F x t
  | _ => none
theorem s_pD_i {α : Type} {st : List sV} {F : UInt64 → List sV → Option α} {r : α} (h : s_pD st F = some r) : ∃ (x : UInt64) (t : List sV), st = .inl (.double x) :: t ∧ F x t = some r := by
  unfold s_pD at h
  split at h
  · exact ⟨_, _, rfl, h⟩
  · cases h
def s_pDD {α : Type} (st : List sV) (F : UInt64 → UInt64 → List sV → Option α) : Option α := match st with
  | .inl (.double x2) :: .inl (.double x1) :: t => F x2 x1 t
  | _ => none
theorem s_pDD_i {α : Type} {st : List sV} {F : UInt64 → UInt64 → List sV → Option α} {r : α} (h : s_pDD st F = some r) : ∃ (x2 : UInt64) (x1 : UInt64) (t : List sV), st = .inl (.double x2) :: .inl (.double x1) :: t ∧ F x2 x1 t = some r := by
  unfold s_pDD at h
  split at h
  · exact ⟨_, _, _, rfl, h⟩
  · cases h
def s_pV {α : Type} (st : List sV) (F : sV → List sV → Option α) : Option α := match st with
  | v :: t => F v t
  | _ => none
theorem s_pV_i {α : Type} {st : List sV} {F : sV → List sV → Option α} {r : α} (h : s_pV st F = some r) : ∃ (v : sV) (t : List sV), st = v :: t ∧ F v t = some r := by
  unfold s_pV at h
  split at h
  · exact ⟨_, _, rfl, h⟩
  · cases h
def s_pVV {α : Type} (st : List sV) (F : sV → sV → List sV → Option α) : Option α := match st with
  | v2 :: v1 :: t => F v2 v1 t
  | _ => none
theorem s_pVV_i {α : Type} {st : List sV} {F : sV → sV → List sV → Option α} {r : α} (h : s_pVV st F = some r) : ∃ (v2 : sV) (v1 : sV) (t : List sV), st = v2 :: v1 :: t ∧ F v2 v1 t = some r := by
  unfold s_pVV at h
  split at h
  · exact ⟨_, _, _, rfl, h⟩
  · cases h
def s_pR {α : Type} (st : List sV) (F : Nat → List sV → Option α) : Option α := match st with
  | .inl (.ref a) :: t => F a t
  | _ => none
theorem s_pR_i {α : Type} {st : List sV} {F : Nat → List sV → Option α} {r : α} (h : s_pR st F = some r) : ∃ (a : Nat) (t : List sV), st = .inl (.ref a) :: t ∧ F a t = some r := by
  unfold s_pR at h
  split at h
  · exact ⟨_, _, rfl, h⟩
  · cases h
def s_pRI {α : Type} (st : List sV) (F : Int32 → Nat → List sV → Option α) : Option α := match st with
  | .inl (.int i) :: .inl (.ref a) :: t => F i a t
  | _ => none
theorem s_pRI_i {α : Type} {st : List sV} {F : Int32 → Nat → List sV → Option α} {r : α} (h : s_pRI st F = some r) : ∃ (i : Int32) (a : Nat) (t : List sV), st = .inl (.int i) :: .inl (.ref a) :: t ∧ F i a t = some r := by
  unfold s_pRI at h
  split at h
  · exact ⟨_, _, _, rfl, h⟩
  · cases h
def s_pRVI {α : Type} (st : List sV) (F : sV → Int32 → Nat → List sV → Option α) : Option α := match st with
  | v :: .inl (.int i) :: .inl (.ref a) :: t => F v i a t
  | _ => none
theorem s_pRVI_i {α : Type} {st : List sV} {F : sV → Int32 → Nat → List sV → Option α} {r : α} (h : s_pRVI st F = some r) : ∃ (v : sV) (i : Int32) (a : Nat) (t : List sV), st = v :: .inl (.int i) :: .inl (.ref a) :: t ∧ F v i a t = some r := by
  unfold s_pRVI at h
  split at h
  · exact ⟨_, _, _, _, rfl, h⟩
  · cases h
def s_pRIL {α : Type} (st : List sV) (F : Int64 → Int32 → Nat → List sV → Option α) : Option α := match st with
  | .inl (.long x) :: .inl (.int i) :: .inl (.ref a) :: t => F x i a t
  | _ => none
theorem s_pRIL_i {α : Type} {st : List sV} {F : Int64 → Int32 → Nat → List sV → Option α} {r : α} (h : s_pRIL st F = some r) : ∃ (x : Int64) (i : Int32) (a : Nat) (t : List sV), st = .inl (.long x) :: .inl (.int i) :: .inl (.ref a) :: t ∧ F x i a t = some r := by
  unfold s_pRIL at h
  split at h
  · exact ⟨_, _, _, _, rfl, h⟩
  · cases h
def s_pRIR {α : Type} (st : List sV) (F : Nat → Int32 → Nat → List sV → Option α) : Option α := match st with
  | .inl (.ref v) :: .inl (.int i) :: .inl (.ref a) :: t => F v i a t
  | _ => none
theorem s_pRIR_i {α : Type} {st : List sV} {F : Nat → Int32 → Nat → List sV → Option α} {r : α} (h : s_pRIR st F = some r) : ∃ (v : Nat) (i : Int32) (a : Nat) (t : List sV), st = .inl (.ref v) :: .inl (.int i) :: .inl (.ref a) :: t ∧ F v i a t = some r := by
  unfold s_pRIR at h
  split at h
  · exact ⟨_, _, _, _, rfl, h⟩
  · cases h
def s_pRV {α : Type} (st : List sV) (F : sV → Nat → List sV → Option α) : Option α := match st with
  | v :: .inl (.ref a) :: t => F v a t
  | _ => none
theorem s_pRV_i {α : Type} {st : List sV} {F : sV → Nat → List sV → Option α} {r : α} (h : s_pRV st F = some r) : ∃ (v : sV) (a : Nat) (t : List sV), st = v :: .inl (.ref a) :: t ∧ F v a t = some r := by
  unfold s_pRV at h
  split at h
  · exact ⟨_, _, _, rfl, h⟩
  · cases h
def s_pRVx {α : Type} (st : List sV) (F : sV → Nat → List sV → Option α) : Option α := match st with
  | v :: .inl (.ref a) :: t => F v a t
  | _ => none
theorem s_pRVx_i {α : Type} {st : List sV} {F : sV → Nat → List sV → Option α} {r : α} (h : s_pRVx st F = some r) : ∃ (v : sV) (a : Nat) (t : List sV), st = v :: .inl (.ref a) :: t ∧ F v a t = some r := by
  unfold s_pRVx at h
  split at h
  · exact ⟨_, _, _, rfl, h⟩
  · cases h
abbrev sCf : Type := Nat × sL × List sV × sM × Nat × Nat
def s_isI (v : sV) : Bool := match v with
  | .inl (.int _) => true
  | .inr _ => true
  | _ => false
theorem s_isI_ok (ε : Nat → Int32) {v : sV} (h : s_isI v = true) : s_v ε v = .int (s_i ε v) := by
  unfold s_isI at h
  split at h
  · rfl
  · rfl
  · cases h
def s_put (ty : FieldType) (v : sV) : Bool := match v with
  | .inl w => g_put ty w
  | .inr _ => decide (ty = .int)
theorem s_put_ok (ε : Nat → Int32) {ty : FieldType} {v : sV} (h : s_put ty v = true) : g_put ty (s_v ε v) = true := by
  unfold s_put at h
  split at h
  · exact h
  · next q =>
    have h := of_decide_eq_true h
    subst h
    simp [g_put, s_v, narrow, fits]
noncomputable def s_flt (p : Nat × sV → Bool) (lv : sL) : sL := List.rec (motive := fun _ => sL) [] (fun a _ ih => bif p a then a :: ih else ih) lv
theorem s_flt_eq (p : Nat × sV → Bool) : ∀ lv : sL, s_flt p lv = lv.filter p
  | [] => rfl
  | a :: lv => by
    have ih := s_flt_eq p lv
    show (bif p a then a :: s_flt p lv else s_flt p lv) = _
    rw [ih]
    cases h : p a with
    | true => simp [h]
    | false => simp [h]
theorem s_beq (a b : Nat) : (a == b) = Nat.beq a b := by
  cases h : Nat.beq a b with
  | true => exact beq_iff_eq.mpr (Nat.eq_of_beq_eq_true h)
  | false => exact beq_eq_false_iff_ne.mpr (Nat.ne_of_beq_eq_false h)
noncomputable def s_st1 (lv : sL) (i : Nat) (v : sV) : sL := (i, v) :: s_flt (fun q => bif Nat.beq q.1 i then false else bif Nat.beq (q.1 + 1) i then !(Nat.beq (s_cat q.2) 2) else true) lv
noncomputable def s_st2 (lv : sL) (i : Nat) (v : sV) : sL := (i, v) :: s_flt (fun q => bif Nat.beq q.1 i then false else bif Nat.beq q.1 (i + 1) then false else bif Nat.beq (q.1 + 1) i then !(Nat.beq (s_cat q.2) 2) else true) lv
theorem s_st1_ok (ε : Nat → Int32) (lv : sL) (i : Nat) (v : sV) : g_st1 (s_Lv ε lv) i (s_v ε v) = s_Lv ε (s_st1 lv i v) := by
  simp only [s_Lv, g_st1, s_st1, List.map_cons, List.filter_map, s_flt_eq]
  congr 2
  exact List.filter_congr (fun q _ => by
    simp only [Function.comp, s_cat_ok, s_beq]
    cases Nat.beq q.1 i <;> cases Nat.beq (q.1 + 1) i <;> rfl)
theorem s_st2_ok (ε : Nat → Int32) (lv : sL) (i : Nat) (v : sV) : g_st2 (s_Lv ε lv) i (s_v ε v) = s_Lv ε (s_st2 lv i v) := by
  simp only [s_Lv, g_st2, s_st2, List.map_cons, List.filter_map, s_flt_eq]
  congr 2
  exact List.filter_congr (fun q _ => by
    simp only [Function.comp, s_cat_ok, s_beq]
    cases Nat.beq q.1 i <;> cases Nat.beq q.1 (i + 1) <;> cases Nat.beq (q.1 + 1) i <;> rfl)
def s_dfT : List (List sV) := [[.inl (.int 0), .inl (.int 0), .inl (.int 0), .inl .null],
  [.inl (.int 0), .inl .null, .inl (.int 0)],
  [.inl (.int 0), .inl (.int 0), .inl (.int 0), .inl (.int 0), .inl (.int 0), .inl (.int 0), .inl (.int 0), .inl (.int 0), .inl (.int 0), .inl (.int 0), .inl (.int 0), .inl (.int 0), .inl (.int 0)],
  [.inl .null, .inl (.int 0), .inl (.int 0)],
  [.inl (.int 0), .inl (.int 0), .inl (.int 0), .inl (.int 0), .inl (.int 0), .inl (.int 0)],
  [.inl (.int 0), .inl (.int 0), .inl (.int 0), .inl (.int 0)],
  [.inl .null, .inl (.int 0), .inl .null, .inl (.int 0), .inl (.int 0), .inl (.int 0), .inl (.int 0), .inl (.int 0), .inl (.int 0), .inl (.int 0), .inl (.int 0), .inl (.int 0), .inl (.int 0), .inl (.int 0), .inl (.int 0), .inl (.int 0), .inl (.int 0), .inl (.int 0)],
  [.inl .null, .inl .null, .inl .null, .inl (.int 0), .inl .null],
  [.inl .null, .inl .null, .inl .null, .inl (.int 0), .inl (.int 0), .inl (.int 0), .inl (.int 0), .inl (.int 0), .inl (.int 0), .inl (.int 0), .inl (.int 0), .inl (.int 0), .inl (.int 0), .inl (.int 0), .inl (.int 0)],
  [.inl (.int 0), .inl .null, .inl .null, .inl (.long 0)]]
set_option maxRecDepth 100000 in
theorem s_df_v : (List.range s_dfT.length).all (fun ci => decide (s_dfT.getD ci [] = (g_df ci).map Sum.inl)) = true := by decide +kernel
def s_ftT : List (List FieldType) := [[.int, .int, .int, .object "java/util/ArrayList"],
  [.int, .array (.object "java/lang/Object"), .int],
  [.int, .boolean, .int, .int, .int, .int, .int, .int, .boolean, .boolean, .boolean, .int, .int],
  [.array (.object "FlyTower$Move"), .int, .int],
  [.int, .int, .int, .int, .int, .int],
  [.int, .int, .int, .int],
  [.array (.object "FlyTower$Bar"), .int, .array (.object "FlyTower$Cue"), .int, .int, .int, .int, .int, .boolean, .int, .int, .int, .int, .int, .int, .int, .int, .int],
  [.object "FlyTower$Rig", .object "FlyTower$Rig", .array (.object "FlyTower$Piece"), .int, .array (.int)],
  [.object "java/util/ArrayList", .object "java/util/ArrayList", .array (.int), .int, .int, .int, .boolean, .int, .int, .int, .int, .int, .int, .int, .int],
  [.int, .object "java/util/ArrayList", .object "FlyTowerModel$Tower", .long]]
set_option maxRecDepth 100000 in
theorem s_ft_v : (List.range s_ftT.length).all (fun ci => (List.range (s_ftT.getD ci []).length).all (fun k => decide ((s_ftT.getD ci []).getD k .int = g_ft ci k))) = true := by decide +kernel
noncomputable def s_df (ci : Nat) : Option (List sV) := s_nq s_dfT ci
noncomputable def s_ft (ci k : Nat) : Option FieldType := (s_nq s_ftT ci).bind fun l => s_nq l k
theorem s_df_ok (ε : Nat → Int32) {ci : Nat} {l : List sV} (h : s_df ci = some l) : l.map (s_v ε) = g_df ci := by
  unfold s_df at h
  rw [s_nq_eq] at h
  have hl : ci < s_dfT.length := (List.getElem?_eq_some_iff.mp h).1
  have h1 := of_decide_eq_true (List.all_eq_true.mp s_df_v ci (List.mem_range.mpr hl))
  rw [List.getD_eq_getElem?_getD, show s_dfT[ci]? = some l from h] at h1
  simp only [Option.getD_some] at h1
  rw [h1, List.map_map]
  exact List.map_id'' (fun _ => rfl) _
theorem s_ft_ok {ci k : Nat} {ty : FieldType} (h : s_ft ci k = some ty) : g_ft ci k = ty := by
  unfold s_ft at h
  simp only [s_nq_eq] at h
  obtain ⟨l, h1, h2⟩ := Option.bind_eq_some_iff.mp h
  have hl : ci < s_ftT.length := (List.getElem?_eq_some_iff.mp h1).1
  have e1 : s_ftT.getD ci [] = l := by rw [List.getD_eq_getElem?_getD, h1]; rfl
  have h3 := List.all_eq_true.mp s_ft_v ci (List.mem_range.mpr hl)
  rw [e1] at h3
  have h4 := of_decide_eq_true (List.all_eq_true.mp h3 k (List.mem_range.mpr (List.getElem?_eq_some_iff.mp h2).1))
  rw [List.getD_eq_getElem?_getD, h2] at h4
  exact h4.symm
def s_okAL : List (Nat × Nat) := [(2, 4), (3, 2), (4, 3), (5, 5)]
def s_okA (tg ci : Nat) : Bool := s_okAL.any (fun q => Nat.beq q.1 tg && Nat.beq q.2 ci)
set_option maxRecDepth 100000 in
theorem s_okAL_v : s_okAL.all (fun q => decide (g_tys[q.1]? = some (.object (g_cl q.2).1)) && decide (q.2 < vwCl.length)) = true := by decide +kernel
theorem s_okA_i {tg ci : Nat} (h : s_okA tg ci = true) : g_tys[tg]? = some (.object (g_cl ci).1) ∧ ci < vwCl.length := by
  obtain ⟨q, hq, h2⟩ := List.any_eq_true.mp h
  simp only [Bool.and_eq_true] at h2
  have h3 := List.all_eq_true.mp s_okAL_v q hq
  simp only [Bool.and_eq_true, decide_eq_true_eq] at h3
  rw [Nat.eq_of_beq_eq_true h2.1, Nat.eq_of_beq_eq_true h2.2] at h3
  exact h3
def s_iniL : List (Nat × Nat) := [(0, 2), (1, 4), (2, 3), (3, 6), (4, 5), (5, 7), (8, 1), (9, 8), (10, 9), (43, 0)]
def s_pf (y ci k : Nat) (host : Option String) : Bool := !((g_cl ci).2.1 k).2.2.2 || (s_iniL.any (fun q => Nat.beq q.1 y && Nat.beq q.2 ci) && (Nat.blt k (g_cl ci).2.2 && host.isNone))
set_option maxRecDepth 100000 in
theorem s_iniL_v : s_iniL.all (fun q => ((gN q.1).name == "<init>") && (List.range (g_cl q.2).2.2).all (fun k => !((g_cl q.2).2.1 k).2.2.2 || (((g_cl q.2).2.1 k).1 == gOwn q.1))) = true := by decide +kernel
theorem s_pf_i {y ci k : Nat} {host : Option String} (h : s_pf y ci k host = true) : g_pf y ci k host = true := by
  unfold s_pf at h
  unfold g_pf
  rcases Bool.or_eq_true_iff.mp h with h1 | h1
  · rw [h1]; rfl
  · simp only [Bool.and_eq_true] at h1
    obtain ⟨h2, h3, h4⟩ := h1
    obtain ⟨q, hq, h5⟩ := List.any_eq_true.mp h2
    simp only [Bool.and_eq_true] at h5
    have h6 := List.all_eq_true.mp s_iniL_v q hq
    rw [Nat.eq_of_beq_eq_true h5.1, Nat.eq_of_beq_eq_true h5.2] at h6
    simp only [Bool.and_eq_true] at h6
    have h7 := List.all_eq_true.mp h6.2 k (List.mem_range.mpr (Nat.le_of_ble_eq_true h3))
    rcases Bool.or_eq_true_iff.mp h7 with h8 | h8
    · rw [h8]; rfl
    · rw [h6.1, h8, h4]; simp
theorem s_ushr0 (x : Int32) : (x.toUInt32 >>> ((0 : Int32).toUInt32 &&& Int32.toUInt32 31)).toInt32 = x := by
  rw [show ((0 : Int32).toUInt32 &&& Int32.toUInt32 31) = 0 by decide]
  simp
noncomputable def s_x_iconst (v : Int) (L : Nat) (I : sI) (y pc : Nat) (lv : sL) (st : List sV) (m : sM) (c d : Nat) : Option sCf := some (pc + 1, lv, .inl (.int (Int32.ofInt v)) :: st, m, c, d)
noncomputable def s_x_lconst (v : Fin 2) (L : Nat) (I : sI) (y pc : Nat) (lv : sL) (st : List sV) (m : sM) (c d : Nat) : Option sCf := some (pc + 1, lv, .inl (.long (Int64.ofNat (v : Nat))) :: st, m, c, d)
noncomputable def s_x_bipush (v : Int) (L : Nat) (I : sI) (y pc : Nat) (lv : sL) (st : List sV) (m : sM) (c d : Nat) : Option sCf := some (pc + 2, lv, .inl (.int (Int8.ofInt v).toInt32) :: st, m, c, d)
noncomputable def s_x_sipush (v : Int) (L : Nat) (I : sI) (y pc : Nat) (lv : sL) (st : List sV) (m : sM) (c d : Nat) : Option sCf := some (pc + 3, lv, .inl (.int (Int16.ofInt v).toInt32) :: st, m, c, d)
noncomputable def s_x_aconst_null  (L : Nat) (I : sI) (y pc : Nat) (lv : sL) (st : List sV) (m : sM) (c d : Nat) : Option sCf := some (pc + 1, lv, .inl (.null) :: st, m, c, d)
noncomputable def s_x_iadd  (L : Nat) (I : sI) (y pc : Nat) (lv : sL) (st : List sV) (m : sM) (c d : Nat) : Option sCf := match st with
    | .inl (.int x2) :: .inl (.int x1) :: t => some (pc + 1, lv, .inl (.int (x1 + x2)) :: t, m, c, d)
    | .inl (.int x2) :: .inr q :: t => some (pc + 1, lv, .inr (q.1, q.2 + x2) :: t, m, c, d)
    | .inr q :: .inl (.int x1) :: t => some (pc + 1, lv, .inr (q.1, q.2 + x1) :: t, m, c, d)
    | _ => none
noncomputable def s_x_isub  (L : Nat) (I : sI) (y pc : Nat) (lv : sL) (st : List sV) (m : sM) (c d : Nat) : Option sCf := s_pII st fun x2 x1 t => some (pc + 1, lv, .inl (.int (x1 - x2)) :: t, m, c, d)
noncomputable def s_x_imul  (L : Nat) (I : sI) (y pc : Nat) (lv : sL) (st : List sV) (m : sM) (c d : Nat) : Option sCf := s_pII st fun x2 x1 t => some (pc + 1, lv, .inl (.int (x1 * x2)) :: t, m, c, d)
noncomputable def s_x_iand  (L : Nat) (I : sI) (y pc : Nat) (lv : sL) (st : List sV) (m : sM) (c d : Nat) : Option sCf := match st with
    | .inl (.int x2) :: .inl (.int x1) :: t => some (pc + 1, lv, .inl (.int (x1 &&& x2)) :: t, m, c, d)
    | .inl (.int x2) :: .inr q :: t => if x2 = 31 ∧ q = (0, 0) then some (pc + 1, lv, s_rs I (.inr (6, 0)) :: t, m, c, d) else none
    | _ => none
noncomputable def s_x_ior  (L : Nat) (I : sI) (y pc : Nat) (lv : sL) (st : List sV) (m : sM) (c d : Nat) : Option sCf := s_pII st fun x2 x1 t => some (pc + 1, lv, .inl (.int (x1 ||| x2)) :: t, m, c, d)
noncomputable def s_x_ishl  (L : Nat) (I : sI) (y pc : Nat) (lv : sL) (st : List sV) (m : sM) (c d : Nat) : Option sCf := s_pII st fun x2 x1 t => some (pc + 1, lv, .inl (.int (x1 <<< (x2 &&& 31))) :: t, m, c, d)
noncomputable def s_x_ishr  (L : Nat) (I : sI) (y pc : Nat) (lv : sL) (st : List sV) (m : sM) (c d : Nat) : Option sCf := s_pII st fun x2 x1 t => some (pc + 1, lv, .inl (.int (x1 >>> (x2 &&& 31))) :: t, m, c, d)
noncomputable def s_x_iushr  (L : Nat) (I : sI) (y pc : Nat) (lv : sL) (st : List sV) (m : sM) (c d : Nat) : Option sCf := match st with
    | .inl (.int x2) :: .inl (.int x1) :: t => some (pc + 1, lv, .inl (.int (x1.toUInt32 >>> (x2.toUInt32 &&& Int32.toUInt32 31)).toInt32) :: t, m, c, d)
    | .inl (.int x2) :: .inr q :: t => if x2 = 0 then some (pc + 1, lv, .inr q :: t, m, c, d) else none
    | _ => none
noncomputable def s_x_ineg  (L : Nat) (I : sI) (y pc : Nat) (lv : sL) (st : List sV) (m : sM) (c d : Nat) : Option sCf := s_pI st fun x t => some (pc + 1, lv, .inl (.int (-x)) :: t, m, c, d)
noncomputable def s_x_i2l  (L : Nat) (I : sI) (y pc : Nat) (lv : sL) (st : List sV) (m : sM) (c d : Nat) : Option sCf := s_pI st fun x t => some (pc + 1, lv, .inl (.long x.toInt64) :: t, m, c, d)
noncomputable def s_x_ladd  (L : Nat) (I : sI) (y pc : Nat) (lv : sL) (st : List sV) (m : sM) (c d : Nat) : Option sCf := s_pLL st fun x2 x1 t => some (pc + 1, lv, .inl (.long (x1 + x2)) :: t, m, c, d)
noncomputable def s_x_lmul  (L : Nat) (I : sI) (y pc : Nat) (lv : sL) (st : List sV) (m : sM) (c d : Nat) : Option sCf := s_pLL st fun x2 x1 t => some (pc + 1, lv, .inl (.long (x1 * x2)) :: t, m, c, d)
noncomputable def s_x_lcmp  (L : Nat) (I : sI) (y pc : Nat) (lv : sL) (st : List sV) (m : sM) (c d : Nat) : Option sCf := s_pLL st fun x2 x1 t => some (pc + 1, lv, .inl (.int (lg_cmp x1 x2)) :: t, m, c, d)
noncomputable def s_x_dcmp (op : CmpOp) (L : Nat) (I : sI) (y pc : Nat) (lv : sL) (st : List sV) (m : sM) (c d : Nat) : Option sCf := s_pDD st fun x2 x1 t => some (pc + 1, lv, .inl (.int (Op.cmpValue (FP.dcmp x1 x2) op)) :: t, m, c, d)
noncomputable def s_x_dconst (v : Fin 2) (L : Nat) (I : sI) (y pc : Nat) (lv : sL) (st : List sV) (m : sM) (c d : Nat) : Option sCf := if v = 0 then some (pc + 1, lv, .inl (.double FP.dconst0) :: st, m, c, d) else none
noncomputable def s_x_dup  (L : Nat) (I : sI) (y pc : Nat) (lv : sL) (st : List sV) (m : sM) (c d : Nat) : Option sCf := s_pV st fun v t => if s_cat v = 1 then some (pc + 1, lv, v :: v :: t, m, c, d) else none
noncomputable def s_x_pop  (L : Nat) (I : sI) (y pc : Nat) (lv : sL) (st : List sV) (m : sM) (c d : Nat) : Option sCf := s_pV st fun v t => if s_cat v = 1 then some (pc + 1, lv, t, m, c, d) else none
noncomputable def s_x_dup_x1  (L : Nat) (I : sI) (y pc : Nat) (lv : sL) (st : List sV) (m : sM) (c d : Nat) : Option sCf := s_pVV st fun v2 v1 t => if s_cat v2 = 1 ∧ s_cat v1 = 1 then some (pc + 1, lv, v2 :: v1 :: v2 :: t, m, c, d) else none
noncomputable def s_x_dup2  (L : Nat) (I : sI) (y pc : Nat) (lv : sL) (st : List sV) (m : sM) (c d : Nat) : Option sCf := s_pVV st fun v2 v1 t => if s_cat v2 = 1 ∧ s_cat v1 = 1 then some (pc + 1, lv, v2 :: v1 :: v2 :: v1 :: t, m, c, d) else none
noncomputable def s_x_iload (i : Nat) (L : Nat) (I : sI) (y pc : Nat) (lv : sL) (st : List sV) (m : sM) (c d : Nat) : Option sCf := match s_lk lv i with
    | some (.inl (.int x)) => some (pc + 2, lv, .inl (.int x) :: st, m, c, d)
    | some (.inr q) => some (pc + 2, lv, s_rs I (.inr q) :: st, m, c, d)
    | _ => none
noncomputable def s_x_iload_n (i : Fin 4) (L : Nat) (I : sI) (y pc : Nat) (lv : sL) (st : List sV) (m : sM) (c d : Nat) : Option sCf := match s_lk lv (i : Nat) with
    | some (.inl (.int x)) => some (pc + 1, lv, .inl (.int x) :: st, m, c, d)
    | some (.inr q) => some (pc + 1, lv, s_rs I (.inr q) :: st, m, c, d)
    | _ => none
noncomputable def s_x_lload (i : Nat) (L : Nat) (I : sI) (y pc : Nat) (lv : sL) (st : List sV) (m : sM) (c d : Nat) : Option sCf := match s_lk lv i with
    | some (.inl (.long x)) => some (pc + 2, lv, .inl (.long x) :: st, m, c, d)
    | _ => none
noncomputable def s_x_lload_n (i : Fin 4) (L : Nat) (I : sI) (y pc : Nat) (lv : sL) (st : List sV) (m : sM) (c d : Nat) : Option sCf := match s_lk lv (i : Nat) with
    | some (.inl (.long x)) => some (pc + 1, lv, .inl (.long x) :: st, m, c, d)
    | _ => none
noncomputable def s_x_dload (i : Nat) (L : Nat) (I : sI) (y pc : Nat) (lv : sL) (st : List sV) (m : sM) (c d : Nat) : Option sCf := match s_lk lv i with
    | some (.inl (.double x)) => some (pc + 2, lv, .inl (.double x) :: st, m, c, d)
    | _ => none
noncomputable def s_x_dload_n (i : Fin 4) (L : Nat) (I : sI) (y pc : Nat) (lv : sL) (st : List sV) (m : sM) (c d : Nat) : Option sCf := match s_lk lv (i : Nat) with
    | some (.inl (.double x)) => some (pc + 1, lv, .inl (.double x) :: st, m, c, d)
    | _ => none
noncomputable def s_x_aload (i : Nat) (L : Nat) (I : sI) (y pc : Nat) (lv : sL) (st : List sV) (m : sM) (c d : Nat) : Option sCf := match s_lk lv i with
    | some (.inl (.ref x)) => some (pc + 2, lv, .inl (.ref x) :: st, m, c, d)
    | _ => none
noncomputable def s_x_aload_n (i : Fin 4) (L : Nat) (I : sI) (y pc : Nat) (lv : sL) (st : List sV) (m : sM) (c d : Nat) : Option sCf := match s_lk lv (i : Nat) with
    | some (.inl (.ref x)) => some (pc + 1, lv, .inl (.ref x) :: st, m, c, d)
    | _ => none
noncomputable def s_x_istore (i : Nat) (L : Nat) (I : sI) (y pc : Nat) (lv : sL) (st : List sV) (m : sM) (c d : Nat) : Option sCf := s_pV st fun v t => if i < s_lo y ∧ s_isI v = true then some (pc + 2, s_st1 lv i v, t, m, c, d) else none
noncomputable def s_x_istore_n (i : Fin 4) (L : Nat) (I : sI) (y pc : Nat) (lv : sL) (st : List sV) (m : sM) (c d : Nat) : Option sCf := s_pV st fun v t => if (i : Nat) < s_lo y ∧ s_isI v = true then some (pc + 1, s_st1 lv (i : Nat) v, t, m, c, d) else none
noncomputable def s_x_lstore (i : Nat) (L : Nat) (I : sI) (y pc : Nat) (lv : sL) (st : List sV) (m : sM) (c d : Nat) : Option sCf := s_pL st fun x t => if i + 1 < s_lo y then some (pc + 2, s_st2 lv i (.inl (.long x)), t, m, c, d) else none
noncomputable def s_x_lstore_n (i : Fin 4) (L : Nat) (I : sI) (y pc : Nat) (lv : sL) (st : List sV) (m : sM) (c d : Nat) : Option sCf := s_pL st fun x t => if (i : Nat) + 1 < s_lo y then some (pc + 1, s_st2 lv (i : Nat) (.inl (.long x)), t, m, c, d) else none
noncomputable def s_x_dstore (i : Nat) (L : Nat) (I : sI) (y pc : Nat) (lv : sL) (st : List sV) (m : sM) (c d : Nat) : Option sCf := s_pD st fun x t => if i + 1 < s_lo y then some (pc + 2, s_st2 lv i (.inl (.double x)), t, m, c, d) else none
noncomputable def s_x_dstore_n (i : Fin 4) (L : Nat) (I : sI) (y pc : Nat) (lv : sL) (st : List sV) (m : sM) (c d : Nat) : Option sCf := s_pD st fun x t => if (i : Nat) + 1 < s_lo y then some (pc + 1, s_st2 lv (i : Nat) (.inl (.double x)), t, m, c, d) else none
noncomputable def s_x_astore (i : Nat) (L : Nat) (I : sI) (y pc : Nat) (lv : sL) (st : List sV) (m : sM) (c d : Nat) : Option sCf := s_pR st fun a t => if i < s_lo y then some (pc + 2, s_st1 lv i (.inl (.ref a)), t, m, c, d) else none
noncomputable def s_x_astore_n (i : Fin 4) (L : Nat) (I : sI) (y pc : Nat) (lv : sL) (st : List sV) (m : sM) (c d : Nat) : Option sCf := s_pR st fun a t => if (i : Nat) < s_lo y then some (pc + 1, s_st1 lv (i : Nat) (.inl (.ref a)), t, m, c, d) else none
noncomputable def s_x_iinc (i : Nat) (v : Int) (L : Nat) (I : sI) (y pc : Nat) (lv : sL) (st : List sV) (m : sM) (c d : Nat) : Option sCf := match s_lk lv i with
    | some (.inl (.int x)) => if i < s_lo y then some (pc + 3, s_st1 lv i (.inl (.int (x + Int32.ofInt v))), st, m, c, d) else none
    | some (.inr q) => if i < s_lo y then some (pc + 3, s_st1 lv i (.inr (q.1, q.2 + Int32.ofInt v)), st, m, c, d) else none
    | _ => none
noncomputable def s_x_ifCond (cd : Jvm.ClassFile.Cond) (off : Int) (L : Nat) (I : sI) (y pc : Nat) (lv : sL) (st : List sV) (m : sM) (c d : Nat) : Option sCf := (g_tg pc off).bind fun tg => match st with
    | .inl (.int x) :: t => some (if s_c1b cd x then tg else pc + 3, lv, t, m, c, d)
    | .inr q :: t => if q.2 = 0 then (s_cmp I q.1 0).bind fun o => some (if s_o cd o then tg else pc + 3, lv, t, m, c, d) else none
    | _ => none
noncomputable def s_x_if_icmp (cd : Jvm.ClassFile.Cond) (off : Int) (L : Nat) (I : sI) (y pc : Nat) (lv : sL) (st : List sV) (m : sM) (c d : Nat) : Option sCf := (g_tg pc off).bind fun tg => match st with
    | .inl (.int x2) :: .inl (.int x1) :: t => some (if s_c2b cd x1 x2 then tg else pc + 3, lv, t, m, c, d)
    | .inl (.int x2) :: .inr q :: t => if q.2 = 0 then (s_cmp I q.1 x2.toInt).bind fun o => some (if s_o cd o then tg else pc + 3, lv, t, m, c, d) else none
    | .inr q :: .inl (.int x1) :: t => if q.2 = 0 then (s_cmp I q.1 x1.toInt).bind fun o => some (if s_o cd (s_sw o) then tg else pc + 3, lv, t, m, c, d) else none
    | _ => none
noncomputable def s_x_goto (off : Int) (L : Nat) (I : sI) (y pc : Nat) (lv : sL) (st : List sV) (m : sM) (c d : Nat) : Option sCf := (g_tg pc off).bind fun tg => some (tg, lv, st, m, c, d)
noncomputable def s_x_tableswitch (df : Int) (lo : Int) (hi : Int) (offs : Array Int) (L : Nat) (I : sI) (y pc : Nat) (lv : sL) (st : List sV) (m : sM) (c d : Nat) : Option sCf := match st with
    | v :: t => match s_rs I v with
      | .inl (.int x) => if x.toInt < lo ∨ hi < x.toInt then (g_tg pc df).bind fun tg => some (tg, lv, t, m, c, d) else (offs[(x.toInt - lo).toNat]?).bind fun off => (g_tg pc off).bind fun tg => some (tg, lv, t, m, c, d)
      | .inr q => if q.2 = 0 then (match s_nq I q.1 with
        | some r => if r.2 < lo ∨ hi < r.1 then (g_tg pc df).bind fun tg => some (tg, lv, t, m, c, d) else none
        | none => none) else none
      | _ => none
    | _ => none
noncomputable def s_x_ldc (ix : Nat) (L : Nat) (I : sI) (y pc : Nat) (lv : sL) (st : List sV) (m : sM) (c d : Nat) : Option sCf := match gCs y ix with
    | some (.int x, _) => some (pc + 2, lv, .inl (.int x) :: st, m, c, d)
    | _ => none
noncomputable def s_x_ldc2_w (ix : Nat) (L : Nat) (I : sI) (y pc : Nat) (lv : sL) (st : List sV) (m : sM) (c d : Nat) : Option sCf := match gCs y ix with
    | some (.long x, _) => some (pc + 3, lv, .inl (.long x) :: st, m, c, d)
    | _ => none
noncomputable def s_x_getfield (ix : Nat) (L : Nat) (I : sI) (y pc : Nat) (lv : sL) (st : List sV) (m : sM) (c d : Nat) : Option sCf := match s_fld y ix with
    | none => none
    | some (ci, k, _, _, _) => s_pR st fun a t => match s_rd m a with
      | some (.inl (cj, fs)) => if cj = ci then (s_nq fs k).bind fun v => some (pc + 3, lv, s_rs I v :: t, m, c, d) else none
      | _ => none
noncomputable def s_x_putfield (ix : Nat) (L : Nat) (I : sI) (y pc : Nat) (lv : sL) (st : List sV) (m : sM) (c d : Nat) : Option sCf := match s_fld y ix with
    | none => none
    | some (ci, k, _, host, _) => s_pRV st fun v a t => match s_rd m a, s_ft ci k with
      | some (.inl (cj, fs)), some ty => if cj = ci ∧ k < s_len fs ∧ s_put ty v = true ∧ s_ok m.1 v = true ∧ s_pf y ci k host = true then some (pc + 3, lv, t, s_wr m a (some (.inl (ci, s_ls v fs k))), c, d) else none
      | _, _ => none
noncomputable def s_x_new (ix : Nat) (L : Nat) (I : sI) (y pc : Nat) (lv : sL) (st : List sV) (m : sM) (c d : Nat) : Option sCf := match gNw y ix with
    | none => none
    | some (ci, _, _, _) => match s_df ci with
      | some l => if s_can m = true ∧ s_al lv (fun q => s_ok m.1 q.2) = true ∧ s_al st (s_ok m.1) = true then some (pc + 3, lv, .inl (.ref m.1) :: st, s_nw m (some (.inl (ci, l))), c + 1, d + (g_cl ci).2.2) else none
      | none => none
noncomputable def s_x_newarray (at_ : ArrayType) (L : Nat) (I : sI) (y pc : Nat) (lv : sL) (st : List sV) (m : sM) (c d : Nat) : Option sCf := s_pI st fun x t => if ¬ x < 0 ∧ (s_nc x) ≤ 65536 ∧ s_can m = true ∧ s_al lv (fun q => s_ok m.1 q.2) = true ∧ s_al t (s_ok m.1) = true then (match at_ with
      | .int => some (pc + 2, lv, .inl (.ref m.1) :: t, s_nw m (some (.inr (0, .inl (List.replicate (s_nc x) (.inl (.int 0)))))), c + 1, d + (s_nc x))
      | .long => some (pc + 2, lv, .inl (.ref m.1) :: t, s_nw m (some (.inr (1, .inr (.inl (List.replicate (s_nc x) 0))))), c + 1, d + (s_nc x))
      | _ => none) else none
noncomputable def s_x_anewarray (ix : Nat) (L : Nat) (I : sI) (y pc : Nat) (lv : sL) (st : List sV) (m : sM) (c d : Nat) : Option sCf := match gAn y ix with
    | none => none
    | some (tg, _, _) => s_pI st fun x t => if ¬ x < 0 ∧ (s_nc x) ≤ 65536 ∧ s_can m = true ∧ s_al lv (fun q => s_ok m.1 q.2) = true ∧ s_al t (s_ok m.1) = true then some (pc + 3, lv, .inl (.ref m.1) :: t, s_nw m (some (.inr (tg, .inr (.inr (List.replicate (s_nc x) none))))), c + 1, d + (s_nc x)) else none
noncomputable def s_x_arraylength  (L : Nat) (I : sI) (y pc : Nat) (lv : sL) (st : List sV) (m : sM) (c d : Nat) : Option sCf := s_pR st fun a t => if a = 0 then some (pc + 1, lv, .inl (.int (Int32.ofNat L)) :: t, m, c, d) else if a = 1 then some (pc + 1, lv, .inl (.int 0) :: t, m, c, d) else match s_rd m a with
      | some (.inr (_, .inl l)) => some (pc + 1, lv, .inl (.int (Int32.ofNat (s_len l))) :: t, m, c, d)
      | some (.inr (_, .inr (.inl l))) => some (pc + 1, lv, .inl (.int (Int32.ofNat (s_len l))) :: t, m, c, d)
      | some (.inr (_, .inr (.inr l))) => some (pc + 1, lv, .inl (.int (Int32.ofNat (s_len l))) :: t, m, c, d)
      | _ => none
noncomputable def s_x_iaload  (L : Nat) (I : sI) (y pc : Nat) (lv : sL) (st : List sV) (m : sM) (c d : Nat) : Option sCf := s_pRVx st fun v a t => match s_rs I v with
      | .inl (.int i) => if a = 0 then (if s_ixb i L = true then some (pc + 1, lv, s_rs I (.inr ((s_nc i), 0)) :: t, m, c, d) else none) else match s_rd m a with
        | some (.inr (0, .inl l)) => if s_ixb i (s_len l) = true ∧ s_isI (s_nth (.inl (.int 0)) l (s_nc i)) = true then some (pc + 1, lv, s_rs I (s_nth (.inl (.int 0)) l (s_nc i)) :: t, m, c, d) else none
        | _ => none
      | _ => none
noncomputable def s_x_laload  (L : Nat) (I : sI) (y pc : Nat) (lv : sL) (st : List sV) (m : sM) (c d : Nat) : Option sCf := s_pRI st fun i a t => match s_rd m a with
      | some (.inr (1, .inr (.inl l))) => if s_ixb i (s_len l) = true then some (pc + 1, lv, .inl (.long (s_nth 0 l (s_nc i))) :: t, m, c, d) else none
      | _ => none
noncomputable def s_x_aaload  (L : Nat) (I : sI) (y pc : Nat) (lv : sL) (st : List sV) (m : sM) (c d : Nat) : Option sCf := s_pRI st fun i a t => match s_rd m a with
      | some (.inr (tg, .inr (.inr l))) => if s_ixb i (s_len l) = true ∧ g_obj tg = true then some (pc + 1, lv, .inl (va_rf (s_nth none l (s_nc i))) :: t, m, c, d) else none
      | _ => none
noncomputable def s_x_iastore  (L : Nat) (I : sI) (y pc : Nat) (lv : sL) (st : List sV) (m : sM) (c d : Nat) : Option sCf := s_pRVI st fun v i a t => match s_rd m a with
      | some (.inr (0, .inl l)) => if s_ixb i (s_len l) = true ∧ s_isI v = true then some (pc + 1, lv, t, s_wr m a (some (.inr (0, .inl (s_ls v l (s_nc i))))), c, d) else none
      | _ => none
noncomputable def s_x_lastore  (L : Nat) (I : sI) (y pc : Nat) (lv : sL) (st : List sV) (m : sM) (c d : Nat) : Option sCf := s_pRIL st fun x i a t => match s_rd m a with
      | some (.inr (1, .inr (.inl l))) => if s_ixb i (s_len l) = true then some (pc + 1, lv, t, s_wr m a (some (.inr (1, .inr (.inl (s_ls x l (s_nc i)))))), c, d) else none
      | _ => none
noncomputable def s_x_aastore  (L : Nat) (I : sI) (y pc : Nat) (lv : sL) (st : List sV) (m : sM) (c d : Nat) : Option sCf := s_pRIR st fun v i a t => match s_rd m a, s_rd m v with
      | some (.inr (tg, .inr (.inr l))), some (.inl (ci, _)) => if s_ixb i (s_len l) = true ∧ s_okA tg ci = true then some (pc + 1, lv, t, s_wr m a (some (.inr (tg, .inr (.inr (s_ls (some v) l (s_nc i)))))), c, d) else if s_ixb i (s_len l) = true ∧ g_casO tg ci = true then some (pc + 1, lv, t, s_wr m a (some (.inr (tg, .inr (.inr (s_ls (some v) l (s_nc i)))))), c, d) else none
      | some (.inr (tg, .inr (.inr l))), some (.inr (0, .inl _)) => if s_ixb i (s_len l) = true ∧ g_casI tg = true then some (pc + 1, lv, t, s_wr m a (some (.inr (tg, .inr (.inr (s_ls (some v) l (s_nc i)))))), c, d) else none
      | _, _ => none
noncomputable def s_x_invokestatic (ix : Nat) (L : Nat) (I : sI) (y pc : Nat) (lv : sL) (st : List sV) (m : sM) (c d : Nat) : Option sCf := match s_iv y ix with
    | some (_, _, 101, _) => s_pII st fun x2 x1 t => if (t.map s_cat).sum ≤ 8 ∧ 1 ≤ s_F y ∧ 21 ≤ s_W y then some (pc + 3, lv, .inl (.int (if x1 < x2 then x2 else x1)) :: t, m, c, d) else none
    | some (_, _, 102, _) => s_pII st fun x2 x1 t => if (t.map s_cat).sum ≤ 8 ∧ 1 ≤ s_F y ∧ 21 ≤ s_W y then some (pc + 3, lv, .inl (.int (if x2 < x1 then x2 else x1)) :: t, m, c, d) else none
    | some (_, _, 104, _) => match st with
      | .inl (.int n) :: .inl (.int dp) :: .inl (.ref a) :: .inl (.int sp) :: .inl (.ref a0) :: t => match s_rd m a0, s_rd m a with
        | some (.inr (0, .inl f)), some (.inr (0, .inl g)) => if ¬ sp < 0 ∧ ¬ dp < 0 ∧ ¬ n < 0 ∧ sp.toNatClampNeg + n.toNatClampNeg ≤ f.length ∧ dp.toNatClampNeg + n.toNatClampNeg ≤ g.length ∧ (t.map s_cat).sum ≤ 8 ∧ 1 ≤ s_F y ∧ 26 ≤ s_W y then some (pc + 3, lv, t, s_wr m a (some (.inr (0, .inl (s_cpy (.inl (.int 0)) f g sp.toNatClampNeg dp.toNatClampNeg n.toNatClampNeg)))), c, d) else none
        | _, _ => none
      | _ => none
    | _ => none
noncomputable def s_x_getstatic (ix : Nat) (L : Nat) (I : sI) (y pc : Nat) (lv : sL) (st : List sV) (m : sM) (c d : Nat) : Option sCf := match gSt y ix with
    | some _ => some (pc + 3, lv, .inl (.ref 1) :: st, m, c, d)
    | none => none
noncomputable def s_x_if_acmp (cd : ACond) (off : Int) (L : Nat) (I : sI) (y pc : Nat) (lv : sL) (st : List sV) (m : sM) (c d : Nat) : Option sCf := (g_tg pc off).bind fun tg => match st with
    | .inl (.ref a2) :: .inl (.ref a1) :: t => if a1 = a2 then (match cd with
      | .eq => some (tg, lv, t, m, c, d)
      | .ne => some (pc + 3, lv, t, m, c, d)) else none
    | _ => none
noncomputable def s_x_invokespecial (ix : Nat) (L : Nat) (I : sI) (y pc : Nat) (lv : sL) (st : List sV) (m : sM) (c d : Nat) : Option sCf := match s_iv y ix with
    | some (_, _, 100, _) => s_pR st fun a t => if (t.map s_cat).sum ≤ 8 ∧ 1 ≤ s_F y ∧ 21 ≤ s_W y then some (pc + 3, lv, t, m, c, d) else none
    | _ => none
abbrev sFn : Type := Nat → sI → Nat → Nat → sL → List sV → sM → Nat → Nat → Option sCf
def s_x_no : sFn := fun _ _ _ _ _ _ _ _ _ => none
noncomputable def s_fx (i : Instr) : sFn := match i with
  | .iconst v => s_x_iconst v
  | .lconst v => s_x_lconst v
  | .bipush v => s_x_bipush v
  | .sipush v => s_x_sipush v
  | .aconst_null => s_x_aconst_null
  | .iadd => s_x_iadd
  | .isub => s_x_isub
  | .imul => s_x_imul
  | .iand => s_x_iand
  | .ior => s_x_ior
  | .ishl => s_x_ishl
  | .ishr => s_x_ishr
  | .iushr => s_x_iushr
  | .ineg => s_x_ineg
  | .i2l => s_x_i2l
  | .ladd => s_x_ladd
  | .lmul => s_x_lmul
  | .lcmp => s_x_lcmp
  | .dcmp op => s_x_dcmp op
  | .dconst v => s_x_dconst v
  | .dup => s_x_dup
  | .pop => s_x_pop
  | .dup_x1 => s_x_dup_x1
  | .dup2 => s_x_dup2
  | .iload i => s_x_iload i
  | .iload_n i => s_x_iload_n i
  | .lload i => s_x_lload i
  | .lload_n i => s_x_lload_n i
  | .dload i => s_x_dload i
  | .dload_n i => s_x_dload_n i
  | .aload i => s_x_aload i
  | .aload_n i => s_x_aload_n i
  | .istore i => s_x_istore i
  | .istore_n i => s_x_istore_n i
  | .lstore i => s_x_lstore i
  | .lstore_n i => s_x_lstore_n i
  | .dstore i => s_x_dstore i
  | .dstore_n i => s_x_dstore_n i
  | .astore i => s_x_astore i
  | .astore_n i => s_x_astore_n i
  | .iinc i v => s_x_iinc i v
  | .ifCond cd off => s_x_ifCond cd off
  | .if_icmp cd off => s_x_if_icmp cd off
  | .goto off => s_x_goto off
  | .tableswitch df lo hi offs => s_x_tableswitch df lo hi offs
  | .ldc ix => s_x_ldc ix
  | .ldc2_w ix => s_x_ldc2_w ix
  | .getfield ix => s_x_getfield ix
  | .putfield ix => s_x_putfield ix
  | .new ix => s_x_new ix
  | .newarray at_ => s_x_newarray at_
  | .anewarray ix => s_x_anewarray ix
  | .arraylength => s_x_arraylength
  | .iaload => s_x_iaload
  | .laload => s_x_laload
  | .aaload => s_x_aaload
  | .iastore => s_x_iastore
  | .lastore => s_x_lastore
  | .aastore => s_x_aastore
  | .invokestatic ix => s_x_invokestatic ix
  | .getstatic ix => s_x_getstatic ix
  | .if_acmp cd off => s_x_if_acmp cd off
  | .invokespecial ix => s_x_invokespecial ix
  | _ => s_x_no
/-- one step of the symbolic run; none: not told here -/
noncomputable def s_stp (L : Nat) (I : sI) (y : Nat) (i : Instr) (pc : Nat) (lv : sL) (st : List sV) (m : sM) (c d : Nat) : Option sCf := s_fx i L I y pc lv st m c d
abbrev sSp : Type := sI → List sV → sM → List sI
noncomputable def s_sp_if : sSp := fun I st _ => match st with
  | .inr q :: _ => s_cut3 I q.1 0
  | _ => [I]
noncomputable def s_sp_ic : sSp := fun I st _ => match st with
  | .inl (.int c) :: .inr q :: _ => s_cut3 I q.1 c.toInt
  | .inr q :: .inl (.int c) :: _ => s_cut3 I q.1 c.toInt
  | _ => [I]
noncomputable def s_sp_ts (lo : Int) (len : Nat) : sSp := fun I st _ => match st with
  | .inr q :: _ => s_pts I q.1 lo len
  | _ => [I]
noncomputable def s_sp_ia : sSp := fun I st m => match st with
  | .inr q :: .inl (.ref a) :: _ => match s_rd m a with
    | some (.inr (_, .inl l)) => s_pts I q.1 0 l.length
    | _ => [I]
  | _ => [I]
/-- a plain instruction; one that may part the run; a return; a call -/
abbrev sOp : Type := sFn ⊕ (sSp × sFn) ⊕ Nat ⊕ (Nat × Nat)
noncomputable def s_op (i : Instr) : sOp := match i with
  | .iconst v => .inl (s_x_iconst v)
  | .lconst v => .inl (s_x_lconst v)
  | .bipush v => .inl (s_x_bipush v)
  | .sipush v => .inl (s_x_sipush v)
  | .aconst_null => .inl s_x_aconst_null
  | .iadd => .inl s_x_iadd
  | .isub => .inl s_x_isub
  | .imul => .inl s_x_imul
  | .iand => .inl s_x_iand
  | .ior => .inl s_x_ior
  | .ishl => .inl s_x_ishl
  | .ishr => .inl s_x_ishr
  | .iushr => .inl s_x_iushr
  | .ineg => .inl s_x_ineg
  | .i2l => .inl s_x_i2l
  | .ladd => .inl s_x_ladd
  | .lmul => .inl s_x_lmul
  | .lcmp => .inl s_x_lcmp
  | .dcmp op => .inl (s_x_dcmp op)
  | .dconst v => .inl (s_x_dconst v)
  | .dup => .inl s_x_dup
  | .pop => .inl s_x_pop
  | .dup_x1 => .inl s_x_dup_x1
  | .dup2 => .inl s_x_dup2
  | .iload i => .inl (s_x_iload i)
  | .iload_n i => .inl (s_x_iload_n i)
  | .lload i => .inl (s_x_lload i)
  | .lload_n i => .inl (s_x_lload_n i)
  | .dload i => .inl (s_x_dload i)
  | .dload_n i => .inl (s_x_dload_n i)
  | .aload i => .inl (s_x_aload i)
  | .aload_n i => .inl (s_x_aload_n i)
  | .istore i => .inl (s_x_istore i)
  | .istore_n i => .inl (s_x_istore_n i)
  | .lstore i => .inl (s_x_lstore i)
  | .lstore_n i => .inl (s_x_lstore_n i)
  | .dstore i => .inl (s_x_dstore i)
  | .dstore_n i => .inl (s_x_dstore_n i)
  | .astore i => .inl (s_x_astore i)
  | .astore_n i => .inl (s_x_astore_n i)
  | .iinc i v => .inl (s_x_iinc i v)
  | .ifCond cd off => .inr (.inl (s_sp_if, (s_x_ifCond cd off)))
  | .if_icmp cd off => .inr (.inl (s_sp_ic, (s_x_if_icmp cd off)))
  | .goto off => .inl (s_x_goto off)
  | .tableswitch df lo hi offs => .inr (.inl (s_sp_ts lo offs.size, (s_x_tableswitch df lo hi offs)))
  | .ldc ix => .inl (s_x_ldc ix)
  | .ldc2_w ix => .inl (s_x_ldc2_w ix)
  | .getfield ix => .inl (s_x_getfield ix)
  | .putfield ix => .inl (s_x_putfield ix)
  | .new ix => .inl (s_x_new ix)
  | .newarray at_ => .inl (s_x_newarray at_)
  | .anewarray ix => .inl (s_x_anewarray ix)
  | .arraylength => .inl s_x_arraylength
  | .iaload => .inr (.inl (s_sp_ia, s_x_iaload))
  | .laload => .inl s_x_laload
  | .aaload => .inl s_x_aaload
  | .iastore => .inl s_x_iastore
  | .lastore => .inl s_x_lastore
  | .aastore => .inl s_x_aastore
  | .invokestatic ix => .inr (.inr (.inr (0, ix)))
  | .getstatic ix => .inl (s_x_getstatic ix)
  | .if_acmp cd off => .inl (s_x_if_acmp cd off)
  | .invokespecial ix => .inr (.inr (.inr (2, ix)))
  | .ireturn => .inr (.inr (.inl 0))
  | .lreturn => .inr (.inr (.inl 1))
  | .dreturn => .inr (.inr (.inl 2))
  | .areturn => .inr (.inr (.inl 3))
  | .return_ => .inr (.inr (.inl 4))
  | .invokevirtual ix => .inr (.inr (.inr (1, ix)))
  | .invokeinterface ix _ => .inr (.inr (.inr (3, ix)))
  | _ => .inl s_x_no
