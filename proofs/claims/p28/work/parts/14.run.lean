def gt_sub : List Nat := [0, 43, 44, 45, 46, 47, 48, 58, 59, 60, 66, 73, 132, 139, 146, 180, 196, 268, 275, 289, 305, 311, 312, 313, 314, 315, 316, 317, 318, 319, 320, 321, 322, 323, 324, 325, 326, 327, 328, 329, 330, 331, 332, 333, 334, 335, 336, 337, 338, 339, 340, 341, 342, 343, 344, 345, 346, 347, 348, 349, 350, 351, 353, 354, 355, 356, 357, 358, 359, 360, 361, 362, 363, 364, 365, 366, 367, 368, 369, 370, 371, 372, 373, 374, 375, 376, 377, 379, 380, 381, 382, 383, 384, 385, 386, 387, 389, 390, 391, 392, 393, 394, 422, 423, 424, 425, 426, 427, 428, 429, 430, 432, 433, 434, 435, 436, 437, 446, 448, 544, 546, 751]
def gThr (y pc : Nat) : Option (String × Nat × Nat × Nat × String × Bool) := (gm_T.getD y []).lookup pc
/-- a method's end, with what it answers -/
def g_ret (y : Nat) (i : Instr) (st : List Value) : Option (Option Value) := match i with
  | .ireturn => match st with
    | [.int v] => match gR y with
      | some ty => if narrow ty (.int v) = .int v then some (some (.int v)) else none
      | none => none
    | _ => none
  | .lreturn => match st with
    | [.long v] => if gR y = some .long then some (some (.long v)) else none
    | _ => none
  | .dreturn => match st with
    | [.double v] => if gR y = some .double then some (some (.double v)) else none
    | _ => none
  | .areturn => match st with
    | [.ref a] => match gR y with
      | some ty => if g_isRef ty = true then some (some (.ref a)) else none
      | none => none
    | [.null] => match gR y with
      | some ty => if g_isRef ty = true then some (some .null) else none
      | none => none
    | _ => none
  | .return_ => match st with
    | [] => if gR y = none then some none else none
    | _ => none
  | _ => none
def g_ivx : Instr → Option (Nat × Nat)
  | .invokestatic ix => some (0, ix)
  | .invokevirtual ix => some (1, ix)
  | .invokespecial ix => some (2, ix)
  | _ => none
def g_rcv (M : gM) (a ci : Nat) : Bool := match g_rd M a with
  | some (.inl (cj, _)) => decide (cj = ci)
  | _ => false
/-- a call: callee, arguments, what stays on the stack -/
def g_inv (y : Nat) (i : Instr) (st : List Value) (lv : gL) (M : gM) : Option (Nat × List Value × List Value) :=
  match g_ivx i with
  | none => none
  | some (md, ix) => match gIv y ix with
    | none => none
    | some (z, na, kd, ci, _) =>
      if kd < 100 ∧ z ≠ g_ylaw ∧ na ≤ st.length ∧ gF z + 1 ≤ gF y ∧ 8 + (gLo z + 11) + gW z ≤ gW y ∧ (gm_hw.getD z false = decide (kd = 6)) ∧ lv.all (fun q => g_ok M.1 q.2) = true ∧ st.all (g_ok M.1) = true then
        (if md = 0 then (if (kd = 0 ∨ kd = 3 ∨ kd = 6) ∧ (lg_sl (st.take na).reverse).length ≤ gLo z ∧ ((st.drop na).map fun v => v.category).sum ≤ 8 then some (z, (st.take na).reverse, st.drop na) else none)
        else match st.drop na with
          | .ref a :: rest =>
            if (lg_sl (.ref a :: (st.take na).reverse)).length ≤ gLo z ∧ (rest.map fun v => v.category).sum ≤ 8 ∧ ((md = 1 ∧ (kd = 1 ∨ kd = 4) ∧ g_rcv M a ci = true) ∨ (md = 2 ∧ (kd = 2 ∨ kd = 5))) then some (z, .ref a :: (st.take na).reverse, rest) else none
          | _ => none)
      else none
/-- which handler takes E thrown at pc: none: not told here; some none: no row covers pc -/
def g_find (y pc : Nat) (E : String) : List (Nat × Nat × Nat × Nat) → Option (Option Nat)
  | [] => some none
  | q :: t => if q.1 ≤ pc ∧ pc < q.2.1 then (if q.2.2.2 = 0 then none else match (gc_ct.getD (gK y) []).lookup q.2.2.2 with
      | some v => if v.1 = E ∧ g_cast.any (fun u => u.1 == E && u.2.1 == E) = true then some (some q.2.2.1) else if g_nc.any (fun u => u.1 == E && u.2 == v.1) = true then (match g_find y pc E t with
        | some none => none
        | r => r) else none
      | none => none) else g_find y pc E t
abbrev gOut : Type := (Option Value ⊕ String) × gM × Nat × Nat
def g_run (xs : Nat → Int32) (L : Nat) : Nat → Nat → Nat → gL → List Value → gM → Nat → Nat → Option gOut
  | 0, _, _, _, _, _, _, _ => none
  | k + 1, y, pc, lv, st, M, c, d =>
    match gThr y pc with
    | some v => if (st.map fun v => v.category).sum ≤ 8 ∧ 6 ≤ gF y ∧ 98 ≤ gW y ∧ gH y = [] then some (.inr v.1, M, c + 1, d + 6) else none
    | none => match gI y pc with
      | none => none
      | some (i, _) => match g_ret y i st with
        | some r => some (.inl r, M, c, d)
        | none => match g_inv y i st lv M with
          | some (z, as, rest) => match g_run xs L k z 0 (lv_args 0 as) [] M 0 0 with
            | some (.inl r, M1, c1, d1) => g_run xs L k y (pc + 3) lv (r.toList ++ rest) M1 (c + c1) (d + d1)
            | some (.inr E, M1, c1, d1) => match g_find y pc E (gH y) with
              | some (some h) => g_run xs L k y h lv [.ref M1.1] (M1.1 + 1, va_up M1.2 M1.1 none) (c + c1) (d + d1)
              | some none => some (.inr E, M1, c + c1, d + d1)
              | none => none
            | none => none
          | none => match g_stp xs L y i pc lv st M c d with
            | some q => if M.1 ≤ q.2.2.2.1.1 ∧ c ≤ q.2.2.2.2.1 ∧ d ≤ q.2.2.2.2.2 then g_run xs L k y q.1 q.2.1 q.2.2.1 q.2.2.2.1 q.2.2.2.2.1 q.2.2.2.2.2 else none
            | none => none
/-- the words of the throws -/
def gt_ws : List Cond := gt_sub.filterMap (fun i => lw_tbl[i]?)
theorem gt_ws_in {w : Cond} (h : w ∈ gt_ws) : w ∈ lw_tbl := by
  obtain ⟨i, -, hi⟩ := List.mem_filterMap.mp h
  exact List.mem_of_getElem? hi
def gt_nm : List String := ["java/lang/RuntimeException", "java/lang/Exception"]
def gp_T (y pc : Nat) (v : String × Nat × Nat × Nat × String × Bool) : Bool := match v with
  | (E, ik, is, ic, _, wide) => (Cond.classLink (gOwn y) ik E :: Cond.initialized E :: vx_atS (gOwn y) ic E gt_nm).all (fun w => gt_ws.any (fun w2 => decide (w2 = w)) && g_gw w) && (Bundle.fit E && (gt_nm.all Bundle.fit && (decide (gI y pc = some (.new ik, 3)) && (decide (gI y (pc + 3) = some (.dup, 1)) && (if wide = true then decide (gI y (pc + 4) = some (.ldc_w is, 3)) && (decide (gI y (pc + 7) = some (.invokespecial ic, 3)) && decide (gI y (pc + 10) = some (.athrow, 1))) else decide (gI y (pc + 4) = some (.ldc is, 2)) && (decide (gI y (pc + 6) = some (.invokespecial ic, 3)) && decide (gI y (pc + 9) = some (.athrow, 1))))))))
set_option maxRecDepth 100000 in
theorem gv_T : (List.range gm_T.length).all (fun y => (gm_T.getD y []).all (fun e => gp_T y e.1 e.2)) = true := by decide +kernel
def gp_ct (c ct : Nat) (v : String × Nat) : Bool := gp_w v.2 (.classLink (gc_N.getD c "") ct v.1)
theorem gv_ct : (List.range gc_ct.length).all (fun c => (gc_ct.getD c []).all (fun e => gp_ct c e.1 e.2)) = true := by decide +kernel
theorem gv_cast : g_cast.all (fun u => gp_w u.2.2 (.castable u.1 u.2.1)) = true := by decide +kernel
