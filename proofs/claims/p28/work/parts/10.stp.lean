def g_pI {α : Type} (st : List Value) (F : Int32 → List Value → Option α) : Option α := match st with
  | .int x :: t => F x t
  | _ => none
theorem g_pI_i {α : Type} {st : List Value} {F : Int32 → List Value → Option α} {r : α} (h : g_pI st F = some r) : ∃ (x : Int32) (t : List Value), st = .int x :: t ∧ F x t = some r := by
  unfold g_pI at h
  split at h
  · exact ⟨_, _, rfl, h⟩
  · cases h
def g_pII {α : Type} (st : List Value) (F : Int32 → Int32 → List Value → Option α) : Option α := match st with
  | .int x2 :: .int x1 :: t => F x2 x1 t
  | _ => none
theorem g_pII_i {α : Type} {st : List Value} {F : Int32 → Int32 → List Value → Option α} {r : α} (h : g_pII st F = some r) : ∃ (x2 : Int32) (x1 : Int32) (t : List Value), st = .int x2 :: .int x1 :: t ∧ F x2 x1 t = some r := by
  unfold g_pII at h
  split at h
  · exact ⟨_, _, _, rfl, h⟩
  · cases h
def g_pL {α : Type} (st : List Value) (F : Int64 → List Value → Option α) : Option α := match st with
  | .long x :: t => F x t
  | _ => none
theorem g_pL_i {α : Type} {st : List Value} {F : Int64 → List Value → Option α} {r : α} (h : g_pL st F = some r) : ∃ (x : Int64) (t : List Value), st = .long x :: t ∧ F x t = some r := by
  unfold g_pL at h
  split at h
  · exact ⟨_, _, rfl, h⟩
  · cases h
def g_pLL {α : Type} (st : List Value) (F : Int64 → Int64 → List Value → Option α) : Option α := match st with
  | .long x2 :: .long x1 :: t => F x2 x1 t
  | _ => none
theorem g_pLL_i {α : Type} {st : List Value} {F : Int64 → Int64 → List Value → Option α} {r : α} (h : g_pLL st F = some r) : ∃ (x2 : Int64) (x1 : Int64) (t : List Value), st = .long x2 :: .long x1 :: t ∧ F x2 x1 t = some r := by
  unfold g_pLL at h
  split at h
  · exact ⟨_, _, _, rfl, h⟩
  · cases h
def g_pD {α : Type} (st : List Value) (F : UInt64 → List Value → Option α) : Option α := match st with
  | .double x :: t => F x t
  | _ => none
theorem g_pD_i {α : Type} {st : List Value} {F : UInt64 → List Value → Option α} {r : α} (h : g_pD st F = some r) : ∃ (x : UInt64) (t : List Value), st = .double x :: t ∧ F x t = some r := by
  unfold g_pD at h
  split at h
  · exact ⟨_, _, rfl, h⟩
  · cases h
def g_pDD {α : Type} (st : List Value) (F : UInt64 → UInt64 → List Value → Option α) : Option α := match st with
  | .double x2 :: .double x1 :: t => F x2 x1 t
  | _ => none
theorem g_pDD_i {α : Type} {st : List Value} {F : UInt64 → UInt64 → List Value → Option α} {r : α} (h : g_pDD st F = some r) : ∃ (x2 : UInt64) (x1 : UInt64) (t : List Value), st = .double x2 :: .double x1 :: t ∧ F x2 x1 t = some r := by
  unfold g_pDD at h
  split at h
  · exact ⟨_, _, _, rfl, h⟩
  · cases h
def g_pV {α : Type} (st : List Value) (F : Value → List Value → Option α) : Option α := match st with
  | v :: t => F v t
  | _ => none
theorem g_pV_i {α : Type} {st : List Value} {F : Value → List Value → Option α} {r : α} (h : g_pV st F = some r) : ∃ (v : Value) (t : List Value), st = v :: t ∧ F v t = some r := by
  unfold g_pV at h
  split at h
  · exact ⟨_, _, rfl, h⟩
  · cases h
def g_pVV {α : Type} (st : List Value) (F : Value → Value → List Value → Option α) : Option α := match st with
  | v2 :: v1 :: t => F v2 v1 t
  | _ => none
theorem g_pVV_i {α : Type} {st : List Value} {F : Value → Value → List Value → Option α} {r : α} (h : g_pVV st F = some r) : ∃ (v2 : Value) (v1 : Value) (t : List Value), st = v2 :: v1 :: t ∧ F v2 v1 t = some r := by
  unfold g_pVV at h
  split at h
  · exact ⟨_, _, _, rfl, h⟩
  · cases h
def g_pR {α : Type} (st : List Value) (F : Nat → List Value → Option α) : Option α := match st with
  | .ref a :: t => F a t
  | _ => none
theorem g_pR_i {α : Type} {st : List Value} {F : Nat → List Value → Option α} {r : α} (h : g_pR st F = some r) : ∃ (a : Nat) (t : List Value), st = .ref a :: t ∧ F a t = some r := by
  unfold g_pR at h
  split at h
  · exact ⟨_, _, rfl, h⟩
  · cases h
def g_pRI {α : Type} (st : List Value) (F : Int32 → Nat → List Value → Option α) : Option α := match st with
  | .int i :: .ref a :: t => F i a t
  | _ => none
theorem g_pRI_i {α : Type} {st : List Value} {F : Int32 → Nat → List Value → Option α} {r : α} (h : g_pRI st F = some r) : ∃ (i : Int32) (a : Nat) (t : List Value), st = .int i :: .ref a :: t ∧ F i a t = some r := by
  unfold g_pRI at h
  split at h
  · exact ⟨_, _, _, rfl, h⟩
  · cases h
def g_pRII {α : Type} (st : List Value) (F : Int32 → Int32 → Nat → List Value → Option α) : Option α := match st with
  | .int x :: .int i :: .ref a :: t => F x i a t
  | _ => none
theorem g_pRII_i {α : Type} {st : List Value} {F : Int32 → Int32 → Nat → List Value → Option α} {r : α} (h : g_pRII st F = some r) : ∃ (x : Int32) (i : Int32) (a : Nat) (t : List Value), st = .int x :: .int i :: .ref a :: t ∧ F x i a t = some r := by
  unfold g_pRII at h
  split at h
  · exact ⟨_, _, _, _, rfl, h⟩
  · cases h
def g_pRIL {α : Type} (st : List Value) (F : Int64 → Int32 → Nat → List Value → Option α) : Option α := match st with
  | .long x :: .int i :: .ref a :: t => F x i a t
  | _ => none
theorem g_pRIL_i {α : Type} {st : List Value} {F : Int64 → Int32 → Nat → List Value → Option α} {r : α} (h : g_pRIL st F = some r) : ∃ (x : Int64) (i : Int32) (a : Nat) (t : List Value), st = .long x :: .int i :: .ref a :: t ∧ F x i a t = some r := by
  unfold g_pRIL at h
  split at h
  · exact ⟨_, _, _, _, rfl, h⟩
  · cases h
def g_pRIR {α : Type} (st : List Value) (F : Nat → Int32 → Nat → List Value → Option α) : Option α := match st with
  | .ref v :: .int i :: .ref a :: t => F v i a t
  | _ => none
theorem g_pRIR_i {α : Type} {st : List Value} {F : Nat → Int32 → Nat → List Value → Option α} {r : α} (h : g_pRIR st F = some r) : ∃ (v : Nat) (i : Int32) (a : Nat) (t : List Value), st = .ref v :: .int i :: .ref a :: t ∧ F v i a t = some r := by
  unfold g_pRIR at h
  split at h
  · exact ⟨_, _, _, _, rfl, h⟩
  · cases h
def g_pRV {α : Type} (st : List Value) (F : Value → Nat → List Value → Option α) : Option α := match st with
  | v :: .ref a :: t => F v a t
  | _ => none
theorem g_pRV_i {α : Type} {st : List Value} {F : Value → Nat → List Value → Option α} {r : α} (h : g_pRV st F = some r) : ∃ (v : Value) (a : Nat) (t : List Value), st = v :: .ref a :: t ∧ F v a t = some r := by
  unfold g_pRV at h
  split at h
  · exact ⟨_, _, _, rfl, h⟩
  · cases h
abbrev gCf : Type := Nat × gL × List Value × gM × Nat × Nat
def g_tg (pc : Nat) (off : Int) : Option Nat := if (((((pc : Int) + off).toNat : Nat) : Int) = (pc : Int) + off) then some ((pc : Int) + off).toNat else none
theorem g_tg_i {pc : Nat} {off : Int} {t : Nat} (h : g_tg pc off = some t) : (pc : Int) + off = (t : Int) := by
  unfold g_tg at h
  split at h
  · next q => cases h; exact q.symm
  · cases h
def g_st1 (lv : gL) (i : Nat) (v : Value) : gL := (i, v) :: lv.filter (fun q => !(q.1 == i) && !(q.1 + 1 == i && q.2.category == 2))
def g_st2 (lv : gL) (i : Nat) (v : Value) : gL := (i, v) :: lv.filter (fun q => !(q.1 == i) && (!(q.1 == i + 1) && !(q.1 + 1 == i && q.2.category == 2)))
theorem g_tr_cat (ρ : Nat → Nat) (v : Value) : (g_tr ρ v).category = v.category := by cases v <;> rfl
theorem g_st1_tr (ρ : Nat → Nat) (lv : gL) (i : Nat) (v : Value) : (i, g_tr ρ v) :: (g_trL ρ lv).filter (fun q => !(q.1 == i) && !(q.1 + 1 == i && q.2.category == 2)) = g_trL ρ (g_st1 lv i v) := by
  simp only [g_trL, g_st1, List.map_cons, List.filter_map]
  congr 2
  exact List.filter_congr (fun q _ => by simp only [Function.comp, g_tr_cat])
theorem g_st2_tr (ρ : Nat → Nat) (lv : gL) (i : Nat) (v : Value) : (i, g_tr ρ v) :: (g_trL ρ lv).filter (fun q => !(q.1 == i) && (!(q.1 == i + 1) && !(q.1 + 1 == i && q.2.category == 2))) = g_trL ρ (g_st2 lv i v) := by
  simp only [g_trL, g_st2, List.map_cons, List.filter_map]
  congr 2
  exact List.filter_congr (fun q _ => by simp only [Function.comp, g_tr_cat])
theorem g_ld {ρ : Nat → Nat} {lv : gL} {ls : Array Slot} {n i : Nat} {v : Value} (hl : lv_has ls n (g_trL ρ lv)) (h : lv.lookup i = some v) : ls[i]? = some (.val (g_tr ρ v)) :=
  hl.2.2 (i, g_tr ρ v) (List.mem_map.mpr ⟨(i, v), g_lookup_mem h, rfl⟩)
def g_isRef : FieldType → Bool
  | .object _ => true
  | .array _ => true
  | _ => false
def g_put (ty : FieldType) (v : Value) : Bool := match v with
  | .ref _ => g_isRef ty
  | v => decide (narrow ty v = v) && fits ty v
theorem g_put_tr {ty : FieldType} {v : Value} (h : g_put ty v = true) (ρ : Nat → Nat) : narrow ty (g_tr ρ v) = g_tr ρ v ∧ fits ty (g_tr ρ v) = true := by
  cases v with
  | ref k =>
    cases ty <;> first | exact ⟨rfl, rfl⟩ | (cases h)
  | _ =>
    simp only [g_put, Bool.and_eq_true, decide_eq_true_eq] at h
    exact h
def gFld (y ix : Nat) : Option (Nat × Nat × Nat × Option String × String) := (gc_fl.getD (gK y) []).lookup ix
def gNw (y ix : Nat) : Option (Nat × Nat × Nat × Nat) := (gc_nw.getD (gK y) []).lookup ix
def gAn (y ix : Nat) : Option (Nat × Nat × Nat) := (gc_an.getD (gK y) []).lookup ix
def gIv (y ix : Nat) : Option (Nat × Nat × Nat × Nat × Nat × Nat × Nat × Nat × Option String) := (gc_iv.getD (gK y) []).lookup ix
def gCs (y ix : Nat) : Option (Value × Nat) := (gc_cs.getD (gK y) []).lookup ix
def g_cl (ci : Nat) : vw_C := vwCl.getD ci ("", fun _ => ("", "", "", false), 0)
def g_ft (ci k : Nat) : FieldType := (parseFieldDescriptor ((g_cl ci).2.1 k).2.2.1).getD .int
def g_df (ci : Nat) : List Value := (List.range (g_cl ci).2.2).map (fun k => defaultValue (g_ft ci k))
def g_rd (M : gM) (a : Nat) : Option gE := if a < M.1 then M.2 a else none
def g_ix (i : Int32) (n : Nat) : Bool := !(decide (i < 0) || decide (n ≤ i.toNatClampNeg))
def g_c1 (cd : Jvm.ClassFile.Cond) (x : Int32) : Bool := match cd with
  | .eq => decide (x = 0)
  | .ne => decide (¬ x = 0)
  | .lt => decide (x < 0)
  | .ge => decide (0 ≤ x)
  | .gt => decide (0 < x)
  | .le => decide (x ≤ 0)
def g_c2 (cd : Jvm.ClassFile.Cond) (x1 x2 : Int32) : Bool := match cd with
  | .eq => decide (x1 = x2)
  | .ne => decide (¬ x1 = x2)
  | .lt => decide (x1 < x2)
  | .ge => decide (x2 ≤ x1)
  | .gt => decide (x2 < x1)
  | .le => decide (x1 ≤ x2)
def g_obj (tg : Nat) : Bool := match g_tys[tg]? with
  | some (.object _) => true
  | _ => false
/-- a final field may be put by its own class's constructor alone -/
def g_pf (y ci k : Nat) (host : Option String) : Bool := !((g_cl ci).2.1 k).2.2.2 || (((gN y).name == "<init>") && ((((g_cl ci).2.1 k).1 == gOwn y) && host.isNone))
/-- one step within a frame; none: not told here -/
def g_stp (xs : Nat → Int32) (L y : Nat) (i : Instr) (pc : Nat) (lv : gL) (st : List Value) (M : gM) (c d : Nat) : Option gCf := match i with
  | .iconst v => some (pc + 1, lv, .int (Int32.ofInt v) :: st, M, c, d)
  | .lconst v => some (pc + 1, lv, .long (Int64.ofNat (v : Nat)) :: st, M, c, d)
  | .bipush v => some (pc + 2, lv, .int (Int8.ofInt v).toInt32 :: st, M, c, d)
  | .sipush v => some (pc + 3, lv, .int (Int16.ofInt v).toInt32 :: st, M, c, d)
  | .aconst_null => some (pc + 1, lv, .null :: st, M, c, d)
  | .iadd => g_pII st fun x2 x1 t => some (pc + 1, lv, .int (x1 + x2) :: t, M, c, d)
  | .isub => g_pII st fun x2 x1 t => some (pc + 1, lv, .int (x1 - x2) :: t, M, c, d)
  | .imul => g_pII st fun x2 x1 t => some (pc + 1, lv, .int (x1 * x2) :: t, M, c, d)
  | .iand => g_pII st fun x2 x1 t => some (pc + 1, lv, .int (x1 &&& x2) :: t, M, c, d)
  | .ior => g_pII st fun x2 x1 t => some (pc + 1, lv, .int (x1 ||| x2) :: t, M, c, d)
  | .ishl => g_pII st fun x2 x1 t => some (pc + 1, lv, .int (x1 <<< (x2 &&& 31)) :: t, M, c, d)
  | .ishr => g_pII st fun x2 x1 t => some (pc + 1, lv, .int (x1 >>> (x2 &&& 31)) :: t, M, c, d)
  | .iushr => g_pII st fun x2 x1 t => some (pc + 1, lv, .int (x1.toUInt32 >>> (x2.toUInt32 &&& Int32.toUInt32 31)).toInt32 :: t, M, c, d)
  | .idiv => g_pII st fun x2 x1 t => if ¬ x2 = 0 then some (pc + 1, lv, .int (x1 / x2) :: t, M, c, d) else none
  | .irem => g_pII st fun x2 x1 t => if ¬ x2 = 0 then some (pc + 1, lv, .int (x1 - x1 / x2 * x2) :: t, M, c, d) else none
  | .ineg => g_pI st fun x t => some (pc + 1, lv, .int (-x) :: t, M, c, d)
  | .ladd => g_pLL st fun x2 x1 t => some (pc + 1, lv, .long (x1 + x2) :: t, M, c, d)
  | .lmul => g_pLL st fun x2 x1 t => some (pc + 1, lv, .long (x1 * x2) :: t, M, c, d)
  | .i2l => g_pI st fun x t => some (pc + 1, lv, .long x.toInt64 :: t, M, c, d)
  | .i2d => g_pI st fun x t => some (pc + 1, lv, .double (FP.i2d x) :: t, M, c, d)
  | .lcmp => g_pLL st fun x2 x1 t => some (pc + 1, lv, .int (lg_cmp x1 x2) :: t, M, c, d)
  | .dcmp op => g_pDD st fun x2 x1 t => some (pc + 1, lv, .int (Op.cmpValue (FP.dcmp x1 x2) op) :: t, M, c, d)
  | .ddiv => g_pDD st fun x2 x1 t => if FP.ddiv x1 x2 &&& 0x7fffffffffffffff ≤ 0x7ff0000000000000 then some (pc + 1, lv, .double (FP.ddiv x1 x2) :: t, M, c, d) else none
  | .dmul => g_pDD st fun x2 x1 t => if FP.dmul x1 x2 &&& 0x7fffffffffffffff ≤ 0x7ff0000000000000 then some (pc + 1, lv, .double (FP.dmul x1 x2) :: t, M, c, d) else none
  | .dsub => g_pDD st fun x2 x1 t => if FP.dsub x1 x2 &&& 0x7fffffffffffffff ≤ 0x7ff0000000000000 then some (pc + 1, lv, .double (FP.dsub x1 x2) :: t, M, c, d) else none
  | .dconst v => if v = 0 then some (pc + 1, lv, .double FP.dconst0 :: st, M, c, d) else none
  | .dup => g_pV st fun v t => if v.category = 1 then some (pc + 1, lv, v :: v :: t, M, c, d) else none
  | .pop => g_pV st fun v t => if v.category = 1 then some (pc + 1, lv, t, M, c, d) else none
  | .dup_x1 => g_pVV st fun v2 v1 t => if v2.category = 1 ∧ v1.category = 1 then some (pc + 1, lv, v2 :: v1 :: v2 :: t, M, c, d) else none
  | .dup2 => g_pVV st fun v2 v1 t => if v2.category = 1 ∧ v1.category = 1 then some (pc + 1, lv, v2 :: v1 :: v2 :: v1 :: t, M, c, d) else none
  | .iload i => match lv.lookup i with
    | some (.int x) => some (pc + 2, lv, .int x :: st, M, c, d)
    | _ => none
  | .iload_n i => match lv.lookup (i : Nat) with
    | some (.int x) => some (pc + 1, lv, .int x :: st, M, c, d)
    | _ => none
  | .lload i => match lv.lookup i with
    | some (.long x) => some (pc + 2, lv, .long x :: st, M, c, d)
    | _ => none
  | .lload_n i => match lv.lookup (i : Nat) with
    | some (.long x) => some (pc + 1, lv, .long x :: st, M, c, d)
    | _ => none
  | .dload i => match lv.lookup i with
    | some (.double x) => some (pc + 2, lv, .double x :: st, M, c, d)
    | _ => none
  | .dload_n i => match lv.lookup (i : Nat) with
    | some (.double x) => some (pc + 1, lv, .double x :: st, M, c, d)
    | _ => none
  | .aload i => match lv.lookup i with
    | some (.ref x) => some (pc + 2, lv, .ref x :: st, M, c, d)
    | _ => none
  | .aload_n i => match lv.lookup (i : Nat) with
    | some (.ref x) => some (pc + 1, lv, .ref x :: st, M, c, d)
    | _ => none
  | .istore i => g_pI st fun x t => if i < gLo y then some (pc + 2, g_st1 lv i (.int x), t, M, c, d) else none
  | .istore_n i => g_pI st fun x t => if (i : Nat) < gLo y then some (pc + 1, g_st1 lv (i : Nat) (.int x), t, M, c, d) else none
  | .lstore i => g_pL st fun x t => if i + 1 < gLo y then some (pc + 2, g_st2 lv i (.long x), t, M, c, d) else none
  | .lstore_n i => g_pL st fun x t => if (i : Nat) + 1 < gLo y then some (pc + 1, g_st2 lv (i : Nat) (.long x), t, M, c, d) else none
  | .dstore i => g_pD st fun x t => if i + 1 < gLo y then some (pc + 2, g_st2 lv i (.double x), t, M, c, d) else none
  | .dstore_n i => g_pD st fun x t => if (i : Nat) + 1 < gLo y then some (pc + 1, g_st2 lv (i : Nat) (.double x), t, M, c, d) else none
  | .astore i => g_pR st fun a t => if i < gLo y then some (pc + 2, g_st1 lv i (.ref a), t, M, c, d) else none
  | .astore_n i => g_pR st fun a t => if (i : Nat) < gLo y then some (pc + 1, g_st1 lv (i : Nat) (.ref a), t, M, c, d) else none
  | .iinc i v => match lv.lookup i with
    | some (.int x) => if i < gLo y then some (pc + 3, g_st1 lv i (.int (x + Int32.ofInt v)), st, M, c, d) else none
    | _ => none
  | .ifCond cd off => (g_tg pc off).bind fun tg => g_pI st fun x t => some (if g_c1 cd x then tg else pc + 3, lv, t, M, c, d)
  | .if_icmp cd off => (g_tg pc off).bind fun tg => g_pII st fun x2 x1 t => some (if g_c2 cd x1 x2 then tg else pc + 3, lv, t, M, c, d)
  | .goto off => (g_tg pc off).bind fun tg => some (tg, lv, st, M, c, d)
  | .ifnull off => (g_tg pc off).bind fun tg => g_pV st fun v t => match v with
    | .ref _ => some (pc + 3, lv, t, M, c, d)
    | .null => some (tg, lv, t, M, c, d)
    | _ => none
  | .ifnonnull off => (g_tg pc off).bind fun tg => g_pV st fun v t => match v with
    | .ref _ => some (tg, lv, t, M, c, d)
    | .null => some (pc + 3, lv, t, M, c, d)
    | _ => none
  | .tableswitch df lo hi offs => g_pI st fun x t => if x.toInt < lo ∨ hi < x.toInt then (g_tg pc df).bind fun tg => some (tg, lv, t, M, c, d) else (offs[(x.toInt - lo).toNat]?).bind fun off => (g_tg pc off).bind fun tg => some (tg, lv, t, M, c, d)
  | .ldc ix => match gCs y ix with
    | some (.int x, _) => some (pc + 2, lv, .int x :: st, M, c, d)
    | _ => none
  | .ldc_w ix => match gCs y ix with
    | some (.int x, _) => some (pc + 3, lv, .int x :: st, M, c, d)
    | _ => none
  | .ldc2_w ix => match gCs y ix with
    | some (.long x, _) => some (pc + 3, lv, .long x :: st, M, c, d)
    | some (.double x, _) => some (pc + 3, lv, .double x :: st, M, c, d)
    | _ => none
  | .getfield ix => match gFld y ix with
    | none => none
    | some (ci, k, _, _, _) => g_pR st fun a t => match g_rd M a with
      | some (.inl (cj, fs)) => if cj = ci then (fs[k]?).bind fun v => some (pc + 3, lv, v :: t, M, c, d) else none
      | _ => none
  | .putfield ix => match gFld y ix with
    | none => none
    | some (ci, k, _, host, _) => g_pRV st fun v a t => match g_rd M a with
      | some (.inl (cj, fs)) => if cj = ci ∧ k < fs.length ∧ g_put (g_ft ci k) v = true ∧ g_ok M.1 v = true ∧ g_pf y ci k host = true then some (pc + 3, lv, t, (M.1, va_up M.2 a (some (.inl (ci, fs.set k v)))), c, d) else none
      | _ => none
  | .new ix => match gNw y ix with
    | none => none
    | some (ci, _, _, _) => if lv.all (fun q => g_ok M.1 q.2) = true ∧ st.all (g_ok M.1) = true then some (pc + 3, lv, .ref M.1 :: st, (M.1 + 1, va_up M.2 M.1 (some (.inl (ci, g_df ci)))), c + 1, d + (g_cl ci).2.2) else none
  | .newarray at_ => g_pI st fun x t => if ¬ x < 0 ∧ x.toNatClampNeg ≤ 65536 ∧ lv.all (fun q => g_ok M.1 q.2) = true ∧ t.all (g_ok M.1) = true then (match at_ with
      | .int => some (pc + 2, lv, .ref M.1 :: t, (M.1 + 1, va_up M.2 M.1 (some (.inr (0, x.toNatClampNeg, .inl (fun _ => 0))))), c + 1, d + x.toNatClampNeg)
      | _ => none) else none
  | .anewarray ix => match gAn y ix with
    | none => none
    | some (tg, _, _) => g_pI st fun x t => if ¬ x < 0 ∧ x.toNatClampNeg ≤ 65536 ∧ lv.all (fun q => g_ok M.1 q.2) = true ∧ t.all (g_ok M.1) = true then some (pc + 3, lv, .ref M.1 :: t, (M.1 + 1, va_up M.2 M.1 (some (.inr (tg, x.toNatClampNeg, .inr (.inr (fun _ => none)))))), c + 1, d + x.toNatClampNeg) else none
  | .arraylength => g_pR st fun a t => if a = 0 then some (pc + 1, lv, .int (Int32.ofNat L) :: t, M, c, d) else match g_rd M a with
      | some (.inr (_, n, _)) => some (pc + 1, lv, .int (Int32.ofNat n) :: t, M, c, d)
      | _ => none
  | .iaload => g_pRI st fun i a t => if a = 0 then (if g_ix i L = true then some (pc + 1, lv, .int (xs i.toNatClampNeg) :: t, M, c, d) else none) else match g_rd M a with
      | some (.inr (0, n, .inl f)) => if g_ix i n = true then some (pc + 1, lv, .int (f i.toNatClampNeg) :: t, M, c, d) else none
      | _ => none
  | .laload => g_pRI st fun i a t => match g_rd M a with
      | some (.inr (1, n, .inr (.inl f))) => if g_ix i n = true then some (pc + 1, lv, .long (f i.toNatClampNeg) :: t, M, c, d) else none
      | _ => none
  | .aaload => g_pRI st fun i a t => match g_rd M a with
      | some (.inr (tg, n, .inr (.inr f))) => if g_ix i n = true ∧ g_obj tg = true then some (pc + 1, lv, va_rf (f i.toNatClampNeg) :: t, M, c, d) else none
      | _ => none
  | .iastore => g_pRII st fun x i a t => match g_rd M a with
      | some (.inr (0, n, .inl f)) => if g_ix i n = true then some (pc + 1, lv, t, (M.1, va_up M.2 a (some (.inr (0, n, .inl (upd f i.toNatClampNeg x))))), c, d) else none
      | _ => none
  | .lastore => g_pRIL st fun x i a t => match g_rd M a with
      | some (.inr (1, n, .inr (.inl f))) => if g_ix i n = true then some (pc + 1, lv, t, (M.1, va_up M.2 a (some (.inr (1, n, .inr (.inl (vp_updL f i.toNatClampNeg x)))))), c, d) else none
      | _ => none
  | .aastore => g_pRIR st fun v i a t => match g_rd M a, g_rd M v with
      | some (.inr (tg, n, .inr (.inr f))), some (.inl (ci, _)) => if g_ix i n = true ∧ g_tys[tg]? = some (.object (g_cl ci).1) ∧ ci < vwCl.length then some (pc + 1, lv, t, (M.1, va_up M.2 a (some (.inr (tg, n, .inr (.inr (va_up f i.toNatClampNeg (some v))))))), c, d) else none
      | _, _ => none
  | .invokestatic ix => match gIv y ix with
    | some (_, _, 101, _) => g_pII st fun x2 x1 t => if (t.map fun v => v.category).sum ≤ 8 ∧ 1 ≤ gF y ∧ 21 ≤ gW y then some (pc + 3, lv, .int (if x1 < x2 then x2 else x1) :: t, M, c, d) else none
    | some (_, _, 102, _) => g_pII st fun x2 x1 t => if (t.map fun v => v.category).sum ≤ 8 ∧ 1 ≤ gF y ∧ 21 ≤ gW y then some (pc + 3, lv, .int (if x2 < x1 then x2 else x1) :: t, M, c, d) else none
    | some (_, _, 107, _) => g_pD st fun x t => if x &&& 0x7fffffffffffffff ≤ 0x7ff0000000000000 ∧ (t.map fun v => v.category).sum ≤ 8 ∧ 1 ≤ gF y ∧ 21 ≤ gW y then some (pc + 3, lv, .double (x &&& 0x7fffffffffffffff) :: t, M, c, d) else none
    | some (_, _, 103, _) => g_pI st fun x t => if (t.map fun v => v.category).sum ≤ 8 ∧ 1 ≤ gF y ∧ 21 ≤ gW y then some (pc + 3, lv, .int (if 0 ≤ x then x else 0 - x) :: t, M, c, d) else none
    | _ => none
  | .invokespecial ix => match gIv y ix with
    | some (_, _, 100, _) => g_pR st fun a t => if (t.map fun v => v.category).sum ≤ 8 ∧ 1 ≤ gF y ∧ 21 ≤ gW y then some (pc + 3, lv, t, M, c, d) else none
    | _ => none
  | _ => none
