/-! more rows of the pure run -/
theorem jI_nz {x : Int} (h2 : 0 < x) (h3 : x ≤ 2147483647) : ¬ jI x = 0 := fun q => by
  have h := (jI_eq (x := x) (y := 0) (by omega) (by omega) (by omega) (by omega)).mp q
  omega
theorem jI_div {x n : Int} (h0 : 0 ≤ x) (h1 : x ≤ 2147483647) (h2 : 0 < n) (h3 : n ≤ 2147483647) : jI x / jI n = jI (x / n) := by
  apply Int32.toInt.inj
  have hd0 : 0 ≤ x / n := Int.ediv_nonneg h0 (by omega)
  have hd1 : x / n ≤ x := Int.ediv_le_self n h0
  rw [Int32.toInt_div_of_ne_right _ _ (fun q => by
    have h := congrArg Int32.toInt q
    rw [jI_int (by omega) h3] at h
    have h5 : (-1 : Int32).toInt = -1 := by decide
    omega), jI_int (by omega) h1, jI_int (by omega) h3, jI_int (by omega) (by omega), Int.tdiv_eq_ediv_of_nonneg h0]
theorem jput {ty : FieldType} {v : Int} (h : ty = .int ∨ (ty = .boolean ∧ (v = 0 ∨ v = 1))) : g_put ty (.int (jI v)) = true := by
  rcases h with rfl | ⟨rfl, rfl | rfl⟩
  · simp [g_put, narrow, fits]
  · decide
  · decide
section J2
variable {xs : Nat → Int32} {L0 y pc n : Nat} {lv : gL} {st : List Value} {M : gM} {c d : Nat} {o : gOut}
theorem J_ldc {ix j : Nat} {x : Int32} (hI : gI y pc = some (.ldc ix, n)) (hc : gCs y ix = some (.int x, j)) (h : g_R xs L0 y (pc + 2) lv (.int x :: st) M c d o) : g_R xs L0 y pc lv (st) M c d o :=
  g_R_stp (j_thr hI rfl) hI rfl rfl (q := (pc + 2, lv, .int x :: st, M, c, d)) (by simp only [g_stp, hc]) ⟨Nat.le_refl _, Nat.le_refl _, Nat.le_refl _⟩ h
theorem J_ldcw {ix j : Nat} {x : Int32} (hI : gI y pc = some (.ldc_w ix, n)) (hc : gCs y ix = some (.int x, j)) (h : g_R xs L0 y (pc + 3) lv (.int x :: st) M c d o) : g_R xs L0 y pc lv (st) M c d o :=
  g_R_stp (j_thr hI rfl) hI rfl rfl (q := (pc + 3, lv, .int x :: st, M, c, d)) (by simp only [g_stp, hc]) ⟨Nat.le_refl _, Nat.le_refl _, Nat.le_refl _⟩ h
theorem J_isub32 {x1 x2 : Int32} (hI : gI y pc = some (.isub, n)) (h : g_R xs L0 y (pc + 1) lv (.int (x1 - x2) :: st) M c d o) : g_R xs L0 y pc lv (.int x2 :: .int x1 :: st) M c d o :=
  g_R_stp (j_thr hI rfl) hI rfl rfl (q := (pc + 1, lv, .int (x1 - x2) :: st, M, c, d)) (rfl) ⟨Nat.le_refl _, Nat.le_refl _, Nat.le_refl _⟩ h
theorem J_ldc2l {ix j : Nat} {x : Int64} (hI : gI y pc = some (.ldc2_w ix, n)) (hc : gCs y ix = some (.long x, j)) (h : g_R xs L0 y (pc + 3) lv (.long x :: st) M c d o) : g_R xs L0 y pc lv (st) M c d o :=
  g_R_stp (j_thr hI rfl) hI rfl rfl (q := (pc + 3, lv, .long x :: st, M, c, d)) (by simp only [g_stp, hc]) ⟨Nat.le_refl _, Nat.le_refl _, Nat.le_refl _⟩ h
theorem J_ldc2d {ix j : Nat} {x : UInt64} (hI : gI y pc = some (.ldc2_w ix, n)) (hc : gCs y ix = some (.double x, j)) (h : g_R xs L0 y (pc + 3) lv (.double x :: st) M c d o) : g_R xs L0 y pc lv (st) M c d o :=
  g_R_stp (j_thr hI rfl) hI rfl rfl (q := (pc + 3, lv, .double x :: st, M, c, d)) (by simp only [g_stp, hc]) ⟨Nat.le_refl _, Nat.le_refl _, Nat.le_refl _⟩ h
theorem J_iushr {x1 x2 : Int32} (hI : gI y pc = some (.iushr, n)) (h : g_R xs L0 y (pc + 1) lv (.int (x1.toUInt32 >>> (x2.toUInt32 &&& Int32.toUInt32 31)).toInt32 :: st) M c d o) : g_R xs L0 y pc lv (.int x2 :: .int x1 :: st) M c d o :=
  g_R_stp (j_thr hI rfl) hI rfl rfl (q := (pc + 1, lv, .int (x1.toUInt32 >>> (x2.toUInt32 &&& Int32.toUInt32 31)).toInt32 :: st, M, c, d)) (rfl) ⟨Nat.le_refl _, Nat.le_refl _, Nat.le_refl _⟩ h
theorem J_dconst0  (hI : gI y pc = some (.dconst 0, n)) (h : g_R xs L0 y (pc + 1) lv (.double FP.dconst0 :: st) M c d o) : g_R xs L0 y pc lv (st) M c d o :=
  g_R_stp (j_thr hI rfl) hI rfl rfl (q := (pc + 1, lv, .double FP.dconst0 :: st, M, c, d)) (rfl) ⟨Nat.le_refl _, Nat.le_refl _, Nat.le_refl _⟩ h
theorem J_dcmpl {x1 x2 : UInt64} (hI : gI y pc = some (.dcmp .l, n)) (h : g_R xs L0 y (pc + 1) lv (.int (Op.cmpValue (FP.dcmp x1 x2) .l) :: st) M c d o) : g_R xs L0 y pc lv (.double x2 :: .double x1 :: st) M c d o :=
  g_R_stp (j_thr hI rfl) hI rfl rfl (q := (pc + 1, lv, .int (Op.cmpValue (FP.dcmp x1 x2) .l) :: st, M, c, d)) (rfl) ⟨Nat.le_refl _, Nat.le_refl _, Nat.le_refl _⟩ h
theorem J_ddiv {x1 x2 : UInt64} (hI : gI y pc = some (.ddiv, n)) (hn : FP.ddiv x1 x2 &&& 0x7fffffffffffffff ≤ 0x7ff0000000000000) (h : g_R xs L0 y (pc + 1) lv (.double (FP.ddiv x1 x2) :: st) M c d o) : g_R xs L0 y pc lv (.double x2 :: .double x1 :: st) M c d o :=
  g_R_stp (j_thr hI rfl) hI rfl rfl (q := (pc + 1, lv, .double (FP.ddiv x1 x2) :: st, M, c, d)) (by show (if _ then _ else _) = _; rw [if_pos hn]) ⟨Nat.le_refl _, Nat.le_refl _, Nat.le_refl _⟩ h
theorem J_dmul {x1 x2 : UInt64} (hI : gI y pc = some (.dmul, n)) (hn : FP.dmul x1 x2 &&& 0x7fffffffffffffff ≤ 0x7ff0000000000000) (h : g_R xs L0 y (pc + 1) lv (.double (FP.dmul x1 x2) :: st) M c d o) : g_R xs L0 y pc lv (.double x2 :: .double x1 :: st) M c d o :=
  g_R_stp (j_thr hI rfl) hI rfl rfl (q := (pc + 1, lv, .double (FP.dmul x1 x2) :: st, M, c, d)) (by show (if _ then _ else _) = _; rw [if_pos hn]) ⟨Nat.le_refl _, Nat.le_refl _, Nat.le_refl _⟩ h
theorem J_dsub {x1 x2 : UInt64} (hI : gI y pc = some (.dsub, n)) (hn : FP.dsub x1 x2 &&& 0x7fffffffffffffff ≤ 0x7ff0000000000000) (h : g_R xs L0 y (pc + 1) lv (.double (FP.dsub x1 x2) :: st) M c d o) : g_R xs L0 y pc lv (.double x2 :: .double x1 :: st) M c d o :=
  g_R_stp (j_thr hI rfl) hI rfl rfl (q := (pc + 1, lv, .double (FP.dsub x1 x2) :: st, M, c, d)) (by show (if _ then _ else _) = _; rw [if_pos hn]) ⟨Nat.le_refl _, Nat.le_refl _, Nat.le_refl _⟩ h
theorem J_idivI {x1 x2 : Int} (hI : gI y pc = some (.idiv, n)) (h0 : 0 ≤ x1) (h1 : x1 ≤ 2147483647) (h2 : 0 < x2) (h3 : x2 ≤ 2147483647) (h : g_R xs L0 y (pc + 1) lv (.int (jI (x1 / x2)) :: st) M c d o) : g_R xs L0 y pc lv (.int (jI x2) :: .int (jI x1) :: st) M c d o :=
  g_R_stp (j_thr hI rfl) hI rfl rfl (q := (pc + 1, lv, .int (jI (x1 / x2)) :: st, M, c, d)) (by show (if ¬ jI x2 = 0 then _ else _) = _; rw [if_pos (jI_nz h2 h3), jI_div h0 h1 h2 h3]) ⟨Nat.le_refl _, Nat.le_refl _, Nat.le_refl _⟩ h
theorem J_iremI {x1 x2 : Int} (hI : gI y pc = some (.irem, n)) (h0 : 0 ≤ x1) (h1 : x1 ≤ 2147483647) (h2 : 0 < x2) (h3 : x2 ≤ 2147483647) (h : g_R xs L0 y (pc + 1) lv (.int (jI (x1 % x2)) :: st) M c d o) : g_R xs L0 y pc lv (.int (jI x2) :: .int (jI x1) :: st) M c d o :=
  g_R_stp (j_thr hI rfl) hI rfl rfl (q := (pc + 1, lv, .int (jI (x1 % x2)) :: st, M, c, d)) (by show (if ¬ jI x2 = 0 then _ else _) = _; rw [if_pos (jI_nz h2 h3), jI_div h0 h1 h2 h3, jI_mul, jI_sub, Int.emod_def, Int.mul_comm x2]) ⟨Nat.le_refl _, Nat.le_refl _, Nat.le_refl _⟩ h
theorem J_max {ix z na : Nat} {rs : Nat × Nat × Nat × Nat × Nat × Option String} {x1 x2 : Int} (hI : gI y pc = some (.invokestatic ix, n)) (hv : gIv y ix = some (z, na, 101, rs)) (hs : (st.map fun v => v.category).sum ≤ 8) (hf : 1 ≤ gF y ∧ 21 ≤ gW y) (r1 : -2147483648 ≤ x1 ∧ x1 ≤ 2147483647) (r2 : -2147483648 ≤ x2 ∧ x2 ≤ 2147483647) (h : g_R xs L0 y (pc + 3) lv (.int (jI (if x1 < x2 then x2 else x1)) :: st) M c d o) : g_R xs L0 y pc lv (.int (jI x2) :: .int (jI x1) :: st) M c d o :=
  g_R_stp (j_thr hI rfl) hI rfl (by unfold g_inv; simp [g_ivx, hv]) (q := (pc + 3, lv, .int (jI (if x1 < x2 then x2 else x1)) :: st, M, c, d)) (by
    obtain ⟨rs1, rs2, rs3, rs4, rs5, rs6⟩ := rs
    simp only [g_stp, hv, g_pII]
    rw [if_pos ⟨hs, hf.1, hf.2⟩]
    by_cases q : x1 < x2
    · rw [if_pos q, if_pos ((jI_lt r1.1 r1.2 r2.1 r2.2).mpr q)]
    · rw [if_neg q, if_neg (fun z => q ((jI_lt r1.1 r1.2 r2.1 r2.2).mp z))]) ⟨Nat.le_refl _, Nat.le_refl _, Nat.le_refl _⟩ h
theorem J_min {ix z na : Nat} {rs : Nat × Nat × Nat × Nat × Nat × Option String} {x1 x2 : Int} (hI : gI y pc = some (.invokestatic ix, n)) (hv : gIv y ix = some (z, na, 102, rs)) (hs : (st.map fun v => v.category).sum ≤ 8) (hf : 1 ≤ gF y ∧ 21 ≤ gW y) (r1 : -2147483648 ≤ x1 ∧ x1 ≤ 2147483647) (r2 : -2147483648 ≤ x2 ∧ x2 ≤ 2147483647) (h : g_R xs L0 y (pc + 3) lv (.int (jI (if x2 < x1 then x2 else x1)) :: st) M c d o) : g_R xs L0 y pc lv (.int (jI x2) :: .int (jI x1) :: st) M c d o :=
  g_R_stp (j_thr hI rfl) hI rfl (by unfold g_inv; simp [g_ivx, hv]) (q := (pc + 3, lv, .int (jI (if x2 < x1 then x2 else x1)) :: st, M, c, d)) (by
    obtain ⟨rs1, rs2, rs3, rs4, rs5, rs6⟩ := rs
    simp only [g_stp, hv, g_pII]
    rw [if_pos ⟨hs, hf.1, hf.2⟩]
    by_cases q : x2 < x1
    · rw [if_pos q, if_pos ((jI_lt r2.1 r2.2 r1.1 r1.2).mpr q)]
    · rw [if_neg q, if_neg (fun z => q ((jI_lt r2.1 r2.2 r1.1 r1.2).mp z))]) ⟨Nat.le_refl _, Nat.le_refl _, Nat.le_refl _⟩ h
theorem J_abs {ix z na : Nat} {rs : Nat × Nat × Nat × Nat × Nat × Option String} {x : Int} (hI : gI y pc = some (.invokestatic ix, n)) (hv : gIv y ix = some (z, na, 103, rs)) (hs : (st.map fun v => v.category).sum ≤ 8) (hf : 1 ≤ gF y ∧ 21 ≤ gW y) (r1 : -2147483647 ≤ x ∧ x ≤ 2147483647) (h : g_R xs L0 y (pc + 3) lv (.int (jI (if 0 ≤ x then x else -x)) :: st) M c d o) : g_R xs L0 y pc lv (.int (jI x) :: st) M c d o :=
  g_R_stp (j_thr hI rfl) hI rfl (by unfold g_inv; simp [g_ivx, hv]) (q := (pc + 3, lv, .int (jI (if 0 ≤ x then x else -x)) :: st, M, c, d)) (by
    obtain ⟨rs1, rs2, rs3, rs4, rs5, rs6⟩ := rs
    simp only [g_stp, hv, g_pI]
    rw [if_pos ⟨hs, hf.1, hf.2⟩]
    have e : (0 : Int32) = jI 0 := rfl
    by_cases q : 0 ≤ x
    · rw [if_pos q, e, if_pos ((jI_le (by omega) (by omega) (by omega) (by omega)).mpr q)]
    · rw [if_neg q, e, if_neg (fun z => q ((jI_le (by omega) (by omega) (by omega) (by omega)).mp z)), jI_sub, Int.zero_sub]) ⟨Nat.le_refl _, Nat.le_refl _, Nat.le_refl _⟩ h
theorem J_absd {ix z na : Nat} {rs : Nat × Nat × Nat × Nat × Nat × Option String} {x : UInt64} (hI : gI y pc = some (.invokestatic ix, n)) (hv : gIv y ix = some (z, na, 107, rs)) (hs : (st.map fun v => v.category).sum ≤ 8) (hf : 1 ≤ gF y ∧ 21 ≤ gW y) (hn : x &&& 0x7fffffffffffffff ≤ 0x7ff0000000000000) (h : g_R xs L0 y (pc + 3) lv (.double (x &&& 0x7fffffffffffffff) :: st) M c d o) : g_R xs L0 y pc lv (.double x :: st) M c d o :=
  g_R_stp (j_thr hI rfl) hI rfl (by unfold g_inv; simp [g_ivx, hv]) (q := (pc + 3, lv, .double (x &&& 0x7fffffffffffffff) :: st, M, c, d)) (by
    obtain ⟨rs1, rs2, rs3, rs4, rs5, rs6⟩ := rs
    simp only [g_stp, hv, g_pD]
    rw [if_pos ⟨hn, hs, hf.1, hf.2⟩]) ⟨Nat.le_refl _, Nat.le_refl _, Nat.le_refl _⟩ h
theorem J_sld {x : Int} (hI : gI y pc = some (.iaload, n)) (h0 : 0 ≤ x) (h1 : x < (L0 : Int)) (hn : L0 ≤ 65536) (h : g_R xs L0 y (pc + 1) lv (.int (xs x.toNat) :: st) M c d o) : g_R xs L0 y pc lv (.int (jI x) :: .ref 0 :: st) M c d o :=
  g_R_stp (j_thr hI rfl) hI rfl rfl (q := (pc + 1, lv, .int (xs x.toNat) :: st, M, c, d)) (by
    have e1 : ¬ jI x < 0 := fun q => by
      have := (jI_lt (y := 0) (by omega) (by omega) (by omega) (by omega)).mp q
      omega
    have hix : g_ix (jI x) L0 = true := by
      unfold g_ix
      rw [jI_nat h0 (by omega), decide_eq_false e1, decide_eq_false (by omega)]
      rfl
    simp only [g_stp, g_pRI]
    rw [if_pos trivial, if_pos hix, jI_nat h0 (by omega)]) ⟨Nat.le_refl _, Nat.le_refl _, Nat.le_refl _⟩ h
theorem J_slen  (hI : gI y pc = some (.arraylength, n)) (h : g_R xs L0 y (pc + 1) lv (.int (jI (L0 : Int)) :: st) M c d o) : g_R xs L0 y pc lv (.ref 0 :: st) M c d o :=
  g_R_stp (j_thr hI rfl) hI rfl rfl (q := (pc + 1, lv, .int (jI (L0 : Int)) :: st, M, c, d)) (by
    simp only [g_stp, g_pR]
    rw [if_pos trivial, ← Int32.ofInt_eq_ofNat]) ⟨Nat.le_refl _, Nat.le_refl _, Nat.le_refl _⟩ h
theorem J_tsw {df lo hi : Int} {offs : Array Int} {x : Int} {tg : Nat} (hI : gI y pc = some (.tableswitch df lo hi offs, n)) (r : -2147483648 ≤ x ∧ x ≤ 2147483647) (ht : (if x < lo ∨ hi < x then g_tg pc df else (offs[(x - lo).toNat]?).bind (g_tg pc)) = some tg) (h : g_R xs L0 y tg lv st M c d o) : g_R xs L0 y pc lv (.int (jI x) :: st) M c d o := by
  refine g_R_stp (j_thr hI rfl) hI rfl rfl (q := (tg, lv, st, M, c, d)) ?_ ⟨Nat.le_refl _, Nat.le_refl _, Nat.le_refl _⟩ h
  simp only [g_stp, g_pI, jI_int r.1 r.2]
  split at ht
  · next q => rw [if_pos q, ht]; rfl
  · next q =>
    rw [if_neg q]
    cases hz : offs[(x - lo).toNat]? with
    | none => rw [hz] at ht; cases ht
    | some off =>
      rw [hz] at ht
      have ht2 : g_tg pc off = some tg := ht
      simp only [Option.bind_some, ht2]
theorem J_newarr {x : Int} (hI : gI y pc = some (.newarray .int, n)) (h0 : 0 ≤ x) (h1 : x ≤ 65536) (hlv : j_ok M.1 lv) (hst : st.all (g_ok M.1) = true) (h : g_R xs L0 y (pc + 2) lv (.ref M.1 :: st) (M.1 + 1, va_up M.2 M.1 (some (.inr (0, x.toNat, .inl (fun _ => 0))))) (c + 1) (d + x.toNat) o) : g_R xs L0 y pc lv (.int (jI x) :: st) M c d o := by
  refine g_R_stp (j_thr hI rfl) hI rfl rfl (q := (pc + 2, lv, .ref M.1 :: st, (M.1 + 1, va_up M.2 M.1 (some (.inr (0, x.toNat, .inl (fun _ => 0))))), c + 1, d + x.toNat)) ?_ ⟨Nat.le_succ _, Nat.le_succ _, Nat.le_add_right _ _⟩ h
  have e1 : ¬ jI x < 0 := fun q => by
    have := (jI_lt (y := 0) (by omega) (by omega) (by omega) (by omega)).mp q
    omega
  simp only [g_stp, g_pI, jI_nat h0 (show x ≤ 2147483647 by omega)]
  rw [if_pos ⟨e1, by omega, hlv, hst⟩]
theorem j_ix {x : Int} {nn : Nat} (h0 : 0 ≤ x) (h1 : x < (nn : Int)) (hn : nn ≤ 65536) : g_ix (jI x) nn = true := by
  have e1 : ¬ jI x < 0 := fun q => by
    have := (jI_lt (y := 0) (by omega) (by omega) (by omega) (by omega)).mp q
    omega
  unfold g_ix
  rw [jI_nat h0 (by omega), decide_eq_false e1, decide_eq_false (by omega)]
  rfl
theorem J_iald {a nn : Nat} {f : Nat → Int32} {x : Int} (hI : gI y pc = some (.iaload, n)) (ha : ¬ a = 0) (hr : g_rd M a = some (.inr (0, nn, .inl f))) (h0 : 0 ≤ x) (h1 : x < (nn : Int)) (hn : nn ≤ 65536) (h : g_R xs L0 y (pc + 1) lv (.int (f x.toNat) :: st) M c d o) : g_R xs L0 y pc lv (.int (jI x) :: .ref a :: st) M c d o := by
  refine g_R_stp (j_thr hI rfl) hI rfl rfl (q := (pc + 1, lv, .int (f x.toNat) :: st, M, c, d)) ?_ ⟨Nat.le_refl _, Nat.le_refl _, Nat.le_refl _⟩ h
  simp only [g_stp, g_pRI, hr]
  rw [if_neg ha, if_pos (j_ix h0 h1 hn), jI_nat h0 (by omega)]
theorem J_iast {a nn : Nat} {f : Nat → Int32} {x : Int} {v : Int32} (hI : gI y pc = some (.iastore, n)) (hr : g_rd M a = some (.inr (0, nn, .inl f))) (h0 : 0 ≤ x) (h1 : x < (nn : Int)) (hn : nn ≤ 65536) (h : g_R xs L0 y (pc + 1) lv st (M.1, va_up M.2 a (some (.inr (0, nn, .inl (upd f x.toNat v))))) c d o) : g_R xs L0 y pc lv (.int v :: .int (jI x) :: .ref a :: st) M c d o := by
  refine g_R_stp (j_thr hI rfl) hI rfl rfl (q := (pc + 1, lv, st, (M.1, va_up M.2 a (some (.inr (0, nn, .inl (upd f x.toNat v))))), c, d)) ?_ ⟨Nat.le_refl _, Nat.le_refl _, Nat.le_refl _⟩ h
  simp only [g_stp, g_pRII, hr]
  rw [if_pos (j_ix h0 h1 hn), jI_nat h0 (by omega)]
end J2
