section JS
variable {xs : Nat → Int32} {L y pc n : Nat} {lv : gL} {st : List Value} {M : gM} {c d : Nat} {o : gOut}
theorem J_iconst {v : Int} (hI : gI y pc = some (.iconst v, n)) (h : g_R xs L y (pc + 1) lv (.int (jI v) :: st) M c d o) : g_R xs L y pc lv (st) M c d o :=
  g_R_stp (j_thr hI rfl) hI rfl rfl (q := (pc + 1, lv, .int (jI v) :: st, M, c, d)) (rfl) ⟨Nat.le_refl _, Nat.le_refl _, Nat.le_refl _⟩ h
theorem J_lconst {v : Fin 2} (hI : gI y pc = some (.lconst v, n)) (h : g_R xs L y (pc + 1) lv (.long (Int64.ofNat (v : Nat)) :: st) M c d o) : g_R xs L y pc lv (st) M c d o :=
  g_R_stp (j_thr hI rfl) hI rfl rfl (q := (pc + 1, lv, .long (Int64.ofNat (v : Nat)) :: st, M, c, d)) (rfl) ⟨Nat.le_refl _, Nat.le_refl _, Nat.le_refl _⟩ h
theorem J_bipush {v : Int} (hI : gI y pc = some (.bipush v, n)) (hv : (Int8.ofInt v).toInt32 = jI v) (h : g_R xs L y (pc + 2) lv (.int (jI v) :: st) M c d o) : g_R xs L y pc lv (st) M c d o :=
  g_R_stp (j_thr hI rfl) hI rfl rfl (q := (pc + 2, lv, .int (jI v) :: st, M, c, d)) (by rw [← hv]; rfl) ⟨Nat.le_refl _, Nat.le_refl _, Nat.le_refl _⟩ h
theorem J_sipush {v : Int} (hI : gI y pc = some (.sipush v, n)) (hv : (Int16.ofInt v).toInt32 = jI v) (h : g_R xs L y (pc + 3) lv (.int (jI v) :: st) M c d o) : g_R xs L y pc lv (st) M c d o :=
  g_R_stp (j_thr hI rfl) hI rfl rfl (q := (pc + 3, lv, .int (jI v) :: st, M, c, d)) (by rw [← hv]; rfl) ⟨Nat.le_refl _, Nat.le_refl _, Nat.le_refl _⟩ h
theorem J_iadd {x1 x2 : Int} (hI : gI y pc = some (.iadd, n)) (h : g_R xs L y (pc + 1) lv (.int (jI (x1 + x2)) :: st) M c d o) : g_R xs L y pc lv (.int (jI x2) :: .int (jI x1) :: st) M c d o :=
  g_R_stp (j_thr hI rfl) hI rfl rfl (q := (pc + 1, lv, .int (jI (x1 + x2)) :: st, M, c, d)) (by rw [← jI_add]; rfl) ⟨Nat.le_refl _, Nat.le_refl _, Nat.le_refl _⟩ h
theorem J_isub {x1 x2 : Int} (hI : gI y pc = some (.isub, n)) (h : g_R xs L y (pc + 1) lv (.int (jI (x1 - x2)) :: st) M c d o) : g_R xs L y pc lv (.int (jI x2) :: .int (jI x1) :: st) M c d o :=
  g_R_stp (j_thr hI rfl) hI rfl rfl (q := (pc + 1, lv, .int (jI (x1 - x2)) :: st, M, c, d)) (by rw [← jI_sub]; rfl) ⟨Nat.le_refl _, Nat.le_refl _, Nat.le_refl _⟩ h
theorem J_imul {x1 x2 : Int} (hI : gI y pc = some (.imul, n)) (h : g_R xs L y (pc + 1) lv (.int (jI (x1 * x2)) :: st) M c d o) : g_R xs L y pc lv (.int (jI x2) :: .int (jI x1) :: st) M c d o :=
  g_R_stp (j_thr hI rfl) hI rfl rfl (q := (pc + 1, lv, .int (jI (x1 * x2)) :: st, M, c, d)) (by rw [← jI_mul]; rfl) ⟨Nat.le_refl _, Nat.le_refl _, Nat.le_refl _⟩ h
theorem J_ineg {x : Int} (hI : gI y pc = some (.ineg, n)) (h : g_R xs L y (pc + 1) lv (.int (jI (-x)) :: st) M c d o) : g_R xs L y pc lv (.int (jI x) :: st) M c d o :=
  g_R_stp (j_thr hI rfl) hI rfl rfl (q := (pc + 1, lv, .int (jI (-x)) :: st, M, c, d)) (by rw [← jI_neg]; rfl) ⟨Nat.le_refl _, Nat.le_refl _, Nat.le_refl _⟩ h
theorem J_iand {x1 x2 : Int32} (hI : gI y pc = some (.iand, n)) (h : g_R xs L y (pc + 1) lv (.int (x1 &&& x2) :: st) M c d o) : g_R xs L y pc lv (.int x2 :: .int x1 :: st) M c d o :=
  g_R_stp (j_thr hI rfl) hI rfl rfl (q := (pc + 1, lv, .int (x1 &&& x2) :: st, M, c, d)) (rfl) ⟨Nat.le_refl _, Nat.le_refl _, Nat.le_refl _⟩ h
theorem J_ior {x1 x2 : Int32} (hI : gI y pc = some (.ior, n)) (h : g_R xs L y (pc + 1) lv (.int (x1 ||| x2) :: st) M c d o) : g_R xs L y pc lv (.int x2 :: .int x1 :: st) M c d o :=
  g_R_stp (j_thr hI rfl) hI rfl rfl (q := (pc + 1, lv, .int (x1 ||| x2) :: st, M, c, d)) (rfl) ⟨Nat.le_refl _, Nat.le_refl _, Nat.le_refl _⟩ h
theorem J_ishl {x1 x2 : Int32} (hI : gI y pc = some (.ishl, n)) (h : g_R xs L y (pc + 1) lv (.int (x1 <<< (x2 &&& 31)) :: st) M c d o) : g_R xs L y pc lv (.int x2 :: .int x1 :: st) M c d o :=
  g_R_stp (j_thr hI rfl) hI rfl rfl (q := (pc + 1, lv, .int (x1 <<< (x2 &&& 31)) :: st, M, c, d)) (rfl) ⟨Nat.le_refl _, Nat.le_refl _, Nat.le_refl _⟩ h
theorem J_ishr {x1 x2 : Int32} (hI : gI y pc = some (.ishr, n)) (h : g_R xs L y (pc + 1) lv (.int (x1 >>> (x2 &&& 31)) :: st) M c d o) : g_R xs L y pc lv (.int x2 :: .int x1 :: st) M c d o :=
  g_R_stp (j_thr hI rfl) hI rfl rfl (q := (pc + 1, lv, .int (x1 >>> (x2 &&& 31)) :: st, M, c, d)) (rfl) ⟨Nat.le_refl _, Nat.le_refl _, Nat.le_refl _⟩ h
theorem J_iadd32 {x1 x2 : Int32} (hI : gI y pc = some (.iadd, n)) (h : g_R xs L y (pc + 1) lv (.int (x1 + x2) :: st) M c d o) : g_R xs L y pc lv (.int x2 :: .int x1 :: st) M c d o :=
  g_R_stp (j_thr hI rfl) hI rfl rfl (q := (pc + 1, lv, .int (x1 + x2) :: st, M, c, d)) (rfl) ⟨Nat.le_refl _, Nat.le_refl _, Nat.le_refl _⟩ h
theorem J_imul32 {x1 x2 : Int32} (hI : gI y pc = some (.imul, n)) (h : g_R xs L y (pc + 1) lv (.int (x1 * x2) :: st) M c d o) : g_R xs L y pc lv (.int x2 :: .int x1 :: st) M c d o :=
  g_R_stp (j_thr hI rfl) hI rfl rfl (q := (pc + 1, lv, .int (x1 * x2) :: st, M, c, d)) (rfl) ⟨Nat.le_refl _, Nat.le_refl _, Nat.le_refl _⟩ h
theorem J_irem32 {x1 x2 : Int32} (hI : gI y pc = some (.irem, n)) (h0 : ¬ x2 = 0) (h : g_R xs L y (pc + 1) lv (.int (x1 - x1 / x2 * x2) :: st) M c d o) : g_R xs L y pc lv (.int x2 :: .int x1 :: st) M c d o :=
  g_R_stp (j_thr hI rfl) hI rfl rfl (q := (pc + 1, lv, .int (x1 - x1 / x2 * x2) :: st, M, c, d)) (by show (if ¬ x2 = 0 then _ else _) = _; rw [if_pos h0]) ⟨Nat.le_refl _, Nat.le_refl _, Nat.le_refl _⟩ h
theorem J_idiv32 {x1 x2 : Int32} (hI : gI y pc = some (.idiv, n)) (h0 : ¬ x2 = 0) (h : g_R xs L y (pc + 1) lv (.int (x1 / x2) :: st) M c d o) : g_R xs L y pc lv (.int x2 :: .int x1 :: st) M c d o :=
  g_R_stp (j_thr hI rfl) hI rfl rfl (q := (pc + 1, lv, .int (x1 / x2) :: st, M, c, d)) (by show (if ¬ x2 = 0 then _ else _) = _; rw [if_pos h0]) ⟨Nat.le_refl _, Nat.le_refl _, Nat.le_refl _⟩ h
theorem J_ladd {x1 x2 : Int64} (hI : gI y pc = some (.ladd, n)) (h : g_R xs L y (pc + 1) lv (.long (x1 + x2) :: st) M c d o) : g_R xs L y pc lv (.long x2 :: .long x1 :: st) M c d o :=
  g_R_stp (j_thr hI rfl) hI rfl rfl (q := (pc + 1, lv, .long (x1 + x2) :: st, M, c, d)) (rfl) ⟨Nat.le_refl _, Nat.le_refl _, Nat.le_refl _⟩ h
theorem J_lmul {x1 x2 : Int64} (hI : gI y pc = some (.lmul, n)) (h : g_R xs L y (pc + 1) lv (.long (x1 * x2) :: st) M c d o) : g_R xs L y pc lv (.long x2 :: .long x1 :: st) M c d o :=
  g_R_stp (j_thr hI rfl) hI rfl rfl (q := (pc + 1, lv, .long (x1 * x2) :: st, M, c, d)) (rfl) ⟨Nat.le_refl _, Nat.le_refl _, Nat.le_refl _⟩ h
theorem J_lcmp {x1 x2 : Int64} (hI : gI y pc = some (.lcmp, n)) (h : g_R xs L y (pc + 1) lv (.int (lg_cmp x1 x2) :: st) M c d o) : g_R xs L y pc lv (.long x2 :: .long x1 :: st) M c d o :=
  g_R_stp (j_thr hI rfl) hI rfl rfl (q := (pc + 1, lv, .int (lg_cmp x1 x2) :: st, M, c, d)) (rfl) ⟨Nat.le_refl _, Nat.le_refl _, Nat.le_refl _⟩ h
theorem J_i2l {x : Int32} (hI : gI y pc = some (.i2l, n)) (h : g_R xs L y (pc + 1) lv (.long x.toInt64 :: st) M c d o) : g_R xs L y pc lv (.int x :: st) M c d o :=
  g_R_stp (j_thr hI rfl) hI rfl rfl (q := (pc + 1, lv, .long x.toInt64 :: st, M, c, d)) (rfl) ⟨Nat.le_refl _, Nat.le_refl _, Nat.le_refl _⟩ h
theorem J_i2d {x : Int32} (hI : gI y pc = some (.i2d, n)) (h : g_R xs L y (pc + 1) lv (.double (FP.i2d x) :: st) M c d o) : g_R xs L y pc lv (.int x :: st) M c d o :=
  g_R_stp (j_thr hI rfl) hI rfl rfl (q := (pc + 1, lv, .double (FP.i2d x) :: st, M, c, d)) (rfl) ⟨Nat.le_refl _, Nat.le_refl _, Nat.le_refl _⟩ h
theorem J_dup {v : Value} (hI : gI y pc = some (.dup, n)) (hv : v.category = 1) (h : g_R xs L y (pc + 1) lv (v :: v :: st) M c d o) : g_R xs L y pc lv (v :: st) M c d o :=
  g_R_stp (j_thr hI rfl) hI rfl rfl (q := (pc + 1, lv, v :: v :: st, M, c, d)) (by show (if v.category = 1 then _ else _) = _; rw [if_pos hv]) ⟨Nat.le_refl _, Nat.le_refl _, Nat.le_refl _⟩ h
theorem J_pop {v : Value} (hI : gI y pc = some (.pop, n)) (hv : v.category = 1) (h : g_R xs L y (pc + 1) lv (st) M c d o) : g_R xs L y pc lv (v :: st) M c d o :=
  g_R_stp (j_thr hI rfl) hI rfl rfl (q := (pc + 1, lv, st, M, c, d)) (by show (if v.category = 1 then _ else _) = _; rw [if_pos hv]) ⟨Nat.le_refl _, Nat.le_refl _, Nat.le_refl _⟩ h
theorem J_dup_x1 {v2 v1 : Value} (hI : gI y pc = some (.dup_x1, n)) (h2 : v2.category = 1) (h1 : v1.category = 1) (h : g_R xs L y (pc + 1) lv (v2 :: v1 :: v2 :: st) M c d o) : g_R xs L y pc lv (v2 :: v1 :: st) M c d o :=
  g_R_stp (j_thr hI rfl) hI rfl rfl (q := (pc + 1, lv, v2 :: v1 :: v2 :: st, M, c, d)) (by show (if v2.category = 1 ∧ v1.category = 1 then _ else _) = _; rw [if_pos ⟨h2, h1⟩]) ⟨Nat.le_refl _, Nat.le_refl _, Nat.le_refl _⟩ h
theorem J_dup2 {v2 v1 : Value} (hI : gI y pc = some (.dup2, n)) (h2 : v2.category = 1) (h1 : v1.category = 1) (h : g_R xs L y (pc + 1) lv (v2 :: v1 :: v2 :: v1 :: st) M c d o) : g_R xs L y pc lv (v2 :: v1 :: st) M c d o :=
  g_R_stp (j_thr hI rfl) hI rfl rfl (q := (pc + 1, lv, v2 :: v1 :: v2 :: v1 :: st, M, c, d)) (by show (if v2.category = 1 ∧ v1.category = 1 then _ else _) = _; rw [if_pos ⟨h2, h1⟩]) ⟨Nat.le_refl _, Nat.le_refl _, Nat.le_refl _⟩ h
theorem J_iload {i : Nat} {x : Int32} (hI : gI y pc = some (.iload i, n)) (hl : lv.lookup i = some (.int x)) (h : g_R xs L y (pc + 2) lv (.int x :: st) M c d o) : g_R xs L y pc lv (st) M c d o :=
  g_R_stp (j_thr hI rfl) hI rfl rfl (q := (pc + 2, lv, .int x :: st, M, c, d)) (by simp only [g_stp, hl]) ⟨Nat.le_refl _, Nat.le_refl _, Nat.le_refl _⟩ h
theorem J_iload_n {i : Fin 4} {x : Int32} (hI : gI y pc = some (.iload_n i, n)) (hl : lv.lookup (i : Nat) = some (.int x)) (h : g_R xs L y (pc + 1) lv (.int x :: st) M c d o) : g_R xs L y pc lv (st) M c d o :=
  g_R_stp (j_thr hI rfl) hI rfl rfl (q := (pc + 1, lv, .int x :: st, M, c, d)) (by simp only [g_stp, hl]) ⟨Nat.le_refl _, Nat.le_refl _, Nat.le_refl _⟩ h
theorem J_lload {i : Nat} {x : Int64} (hI : gI y pc = some (.lload i, n)) (hl : lv.lookup i = some (.long x)) (h : g_R xs L y (pc + 2) lv (.long x :: st) M c d o) : g_R xs L y pc lv (st) M c d o :=
  g_R_stp (j_thr hI rfl) hI rfl rfl (q := (pc + 2, lv, .long x :: st, M, c, d)) (by simp only [g_stp, hl]) ⟨Nat.le_refl _, Nat.le_refl _, Nat.le_refl _⟩ h
theorem J_lload_n {i : Fin 4} {x : Int64} (hI : gI y pc = some (.lload_n i, n)) (hl : lv.lookup (i : Nat) = some (.long x)) (h : g_R xs L y (pc + 1) lv (.long x :: st) M c d o) : g_R xs L y pc lv (st) M c d o :=
  g_R_stp (j_thr hI rfl) hI rfl rfl (q := (pc + 1, lv, .long x :: st, M, c, d)) (by simp only [g_stp, hl]) ⟨Nat.le_refl _, Nat.le_refl _, Nat.le_refl _⟩ h
theorem J_dload {i : Nat} {x : UInt64} (hI : gI y pc = some (.dload i, n)) (hl : lv.lookup i = some (.double x)) (h : g_R xs L y (pc + 2) lv (.double x :: st) M c d o) : g_R xs L y pc lv (st) M c d o :=
  g_R_stp (j_thr hI rfl) hI rfl rfl (q := (pc + 2, lv, .double x :: st, M, c, d)) (by simp only [g_stp, hl]) ⟨Nat.le_refl _, Nat.le_refl _, Nat.le_refl _⟩ h
theorem J_dload_n {i : Fin 4} {x : UInt64} (hI : gI y pc = some (.dload_n i, n)) (hl : lv.lookup (i : Nat) = some (.double x)) (h : g_R xs L y (pc + 1) lv (.double x :: st) M c d o) : g_R xs L y pc lv (st) M c d o :=
  g_R_stp (j_thr hI rfl) hI rfl rfl (q := (pc + 1, lv, .double x :: st, M, c, d)) (by simp only [g_stp, hl]) ⟨Nat.le_refl _, Nat.le_refl _, Nat.le_refl _⟩ h
theorem J_aload {i : Nat} {x : Nat} (hI : gI y pc = some (.aload i, n)) (hl : lv.lookup i = some (.ref x)) (h : g_R xs L y (pc + 2) lv (.ref x :: st) M c d o) : g_R xs L y pc lv (st) M c d o :=
  g_R_stp (j_thr hI rfl) hI rfl rfl (q := (pc + 2, lv, .ref x :: st, M, c, d)) (by simp only [g_stp, hl]) ⟨Nat.le_refl _, Nat.le_refl _, Nat.le_refl _⟩ h
theorem J_aload_n {i : Fin 4} {x : Nat} (hI : gI y pc = some (.aload_n i, n)) (hl : lv.lookup (i : Nat) = some (.ref x)) (h : g_R xs L y (pc + 1) lv (.ref x :: st) M c d o) : g_R xs L y pc lv (st) M c d o :=
  g_R_stp (j_thr hI rfl) hI rfl rfl (q := (pc + 1, lv, .ref x :: st, M, c, d)) (by simp only [g_stp, hl]) ⟨Nat.le_refl _, Nat.le_refl _, Nat.le_refl _⟩ h
theorem J_istore {i : Nat} {x : Int32} (hI : gI y pc = some (.istore i, n)) (hi : i < gLo y) (h : g_R xs L y (pc + 2) (g_st1 lv i (.int x)) (st) M c d o) : g_R xs L y pc lv (.int x :: st) M c d o :=
  g_R_stp (j_thr hI rfl) hI rfl rfl (q := (pc + 2, (g_st1 lv i (.int x)), st, M, c, d)) (by simp only [g_stp, g_pI]; rw [if_pos hi]) ⟨Nat.le_refl _, Nat.le_refl _, Nat.le_refl _⟩ h
theorem J_istore_n {i : Fin 4} {x : Int32} (hI : gI y pc = some (.istore_n i, n)) (hi : (i : Nat) < gLo y) (h : g_R xs L y (pc + 1) (g_st1 lv (i : Nat) (.int x)) (st) M c d o) : g_R xs L y pc lv (.int x :: st) M c d o :=
  g_R_stp (j_thr hI rfl) hI rfl rfl (q := (pc + 1, (g_st1 lv (i : Nat) (.int x)), st, M, c, d)) (by simp only [g_stp, g_pI]; rw [if_pos hi]) ⟨Nat.le_refl _, Nat.le_refl _, Nat.le_refl _⟩ h
theorem J_astore {i : Nat} {x : Nat} (hI : gI y pc = some (.astore i, n)) (hi : i < gLo y) (h : g_R xs L y (pc + 2) (g_st1 lv i (.ref x)) (st) M c d o) : g_R xs L y pc lv (.ref x :: st) M c d o :=
  g_R_stp (j_thr hI rfl) hI rfl rfl (q := (pc + 2, (g_st1 lv i (.ref x)), st, M, c, d)) (by simp only [g_stp, g_pR]; rw [if_pos hi]) ⟨Nat.le_refl _, Nat.le_refl _, Nat.le_refl _⟩ h
theorem J_astore_n {i : Fin 4} {x : Nat} (hI : gI y pc = some (.astore_n i, n)) (hi : (i : Nat) < gLo y) (h : g_R xs L y (pc + 1) (g_st1 lv (i : Nat) (.ref x)) (st) M c d o) : g_R xs L y pc lv (.ref x :: st) M c d o :=
  g_R_stp (j_thr hI rfl) hI rfl rfl (q := (pc + 1, (g_st1 lv (i : Nat) (.ref x)), st, M, c, d)) (by simp only [g_stp, g_pR]; rw [if_pos hi]) ⟨Nat.le_refl _, Nat.le_refl _, Nat.le_refl _⟩ h
theorem J_lstore {i : Nat} {x : Int64} (hI : gI y pc = some (.lstore i, n)) (hi : i + 1 < gLo y) (h : g_R xs L y (pc + 2) (g_st2 lv i (.long x)) (st) M c d o) : g_R xs L y pc lv (.long x :: st) M c d o :=
  g_R_stp (j_thr hI rfl) hI rfl rfl (q := (pc + 2, (g_st2 lv i (.long x)), st, M, c, d)) (by simp only [g_stp, g_pL]; rw [if_pos hi]) ⟨Nat.le_refl _, Nat.le_refl _, Nat.le_refl _⟩ h
theorem J_lstore_n {i : Fin 4} {x : Int64} (hI : gI y pc = some (.lstore_n i, n)) (hi : (i : Nat) + 1 < gLo y) (h : g_R xs L y (pc + 1) (g_st2 lv (i : Nat) (.long x)) (st) M c d o) : g_R xs L y pc lv (.long x :: st) M c d o :=
  g_R_stp (j_thr hI rfl) hI rfl rfl (q := (pc + 1, (g_st2 lv (i : Nat) (.long x)), st, M, c, d)) (by simp only [g_stp, g_pL]; rw [if_pos hi]) ⟨Nat.le_refl _, Nat.le_refl _, Nat.le_refl _⟩ h
theorem J_dstore {i : Nat} {x : UInt64} (hI : gI y pc = some (.dstore i, n)) (hi : i + 1 < gLo y) (h : g_R xs L y (pc + 2) (g_st2 lv i (.double x)) (st) M c d o) : g_R xs L y pc lv (.double x :: st) M c d o :=
  g_R_stp (j_thr hI rfl) hI rfl rfl (q := (pc + 2, (g_st2 lv i (.double x)), st, M, c, d)) (by simp only [g_stp, g_pD]; rw [if_pos hi]) ⟨Nat.le_refl _, Nat.le_refl _, Nat.le_refl _⟩ h
theorem J_dstore_n {i : Fin 4} {x : UInt64} (hI : gI y pc = some (.dstore_n i, n)) (hi : (i : Nat) + 1 < gLo y) (h : g_R xs L y (pc + 1) (g_st2 lv (i : Nat) (.double x)) (st) M c d o) : g_R xs L y pc lv (.double x :: st) M c d o :=
  g_R_stp (j_thr hI rfl) hI rfl rfl (q := (pc + 1, (g_st2 lv (i : Nat) (.double x)), st, M, c, d)) (by simp only [g_stp, g_pD]; rw [if_pos hi]) ⟨Nat.le_refl _, Nat.le_refl _, Nat.le_refl _⟩ h
theorem J_iinc {i : Nat} {v x : Int} (hI : gI y pc = some (.iinc i v, n)) (hl : lv.lookup i = some (.int (jI x))) (hi : i < gLo y) (h : g_R xs L y (pc + 3) (g_st1 lv i (.int (jI (x + v)))) (st) M c d o) : g_R xs L y pc lv (st) M c d o :=
  g_R_stp (j_thr hI rfl) hI rfl rfl (q := (pc + 3, (g_st1 lv i (.int (jI (x + v)))), st, M, c, d)) (by simp only [g_stp, hl]; rw [if_pos hi, ← jI_add]) ⟨Nat.le_refl _, Nat.le_refl _, Nat.le_refl _⟩ h
theorem J_goto {off : Int} {tg : Nat} (hI : gI y pc = some (.goto off, n)) (ht : g_tg pc off = some tg) (h : g_R xs L y tg lv st M c d o) : g_R xs L y pc lv st M c d o :=
  g_R_stp (j_thr hI rfl) hI rfl rfl (q := (tg, lv, st, M, c, d)) (by simp only [g_stp, ht, Option.bind_some]) ⟨Nat.le_refl _, Nat.le_refl _, Nat.le_refl _⟩ h
theorem J_icmp {cd : Jvm.ClassFile.Cond} {off : Int} {tg : Nat} {x1 x2 : Int32} (hI : gI y pc = some (.if_icmp cd off, n)) (ht : g_tg pc off = some tg) (h : g_R xs L y (if g_c2 cd x1 x2 = true then tg else pc + 3) lv st M c d o) : g_R xs L y pc lv (.int x2 :: .int x1 :: st) M c d o :=
  g_R_stp (j_thr hI rfl) hI rfl rfl (q := (if g_c2 cd x1 x2 then tg else pc + 3, lv, st, M, c, d)) (by simp only [g_stp, ht, Option.bind_some, g_pII]) ⟨Nat.le_refl _, Nat.le_refl _, Nat.le_refl _⟩ h
theorem J_ifc {cd : Jvm.ClassFile.Cond} {off : Int} {tg : Nat} {x : Int32} (hI : gI y pc = some (.ifCond cd off, n)) (ht : g_tg pc off = some tg) (h : g_R xs L y (if g_c1 cd x = true then tg else pc + 3) lv st M c d o) : g_R xs L y pc lv (.int x :: st) M c d o :=
  g_R_stp (j_thr hI rfl) hI rfl rfl (q := (if g_c1 cd x then tg else pc + 3, lv, st, M, c, d)) (by simp only [g_stp, ht, Option.bind_some, g_pI]) ⟨Nat.le_refl _, Nat.le_refl _, Nat.le_refl _⟩ h
theorem J_iceq {off : Int} {tg : Nat} {x1 x2 : Int} (hI : gI y pc = some (.if_icmp .eq off, n)) (ht : g_tg pc off = some tg) (r1 : -2147483648 ≤ x1 ∧ x1 ≤ 2147483647) (r2 : -2147483648 ≤ x2 ∧ x2 ≤ 2147483647) (hT : x1 = x2 → g_R xs L y tg lv st M c d o) (hF : ¬ x1 = x2 → g_R xs L y (pc + 3) lv st M c d o) : g_R xs L y pc lv (.int (jI x2) :: .int (jI x1) :: st) M c d o := by
  refine J_icmp hI ht ?_
  have hk := j_c2 (cd := .eq) r1.1 r1.2 r2.1 r2.2
  by_cases q : x1 = x2
  · rw [if_pos (hk.mpr q)]; exact hT q
  · rw [if_neg (fun z => q (hk.mp z))]; exact hF (q)
theorem J_ifeq {off : Int} {tg : Nat} {x : Int} (hI : gI y pc = some (.ifCond .eq off, n)) (ht : g_tg pc off = some tg) (r : -2147483648 ≤ x ∧ x ≤ 2147483647) (hT : x = 0 → g_R xs L y tg lv st M c d o) (hF : ¬ x = 0 → g_R xs L y (pc + 3) lv st M c d o) : g_R xs L y pc lv (.int (jI x) :: st) M c d o := by
  refine J_ifc hI ht ?_
  rw [j_c1c2]
  have hk := j_c2 (cd := .eq) r.1 r.2 (y := 0) (by decide) (by decide)
  by_cases q : x = 0
  · rw [if_pos (hk.mpr q)]; exact hT q
  · rw [if_neg (fun z => q (hk.mp z))]; exact hF (q)
theorem J_icne {off : Int} {tg : Nat} {x1 x2 : Int} (hI : gI y pc = some (.if_icmp .ne off, n)) (ht : g_tg pc off = some tg) (r1 : -2147483648 ≤ x1 ∧ x1 ≤ 2147483647) (r2 : -2147483648 ≤ x2 ∧ x2 ≤ 2147483647) (hT : ¬ x1 = x2 → g_R xs L y tg lv st M c d o) (hF : x1 = x2 → g_R xs L y (pc + 3) lv st M c d o) : g_R xs L y pc lv (.int (jI x2) :: .int (jI x1) :: st) M c d o := by
  refine J_icmp hI ht ?_
  have hk := j_c2 (cd := .ne) r1.1 r1.2 r2.1 r2.2
  by_cases q : ¬ x1 = x2
  · rw [if_pos (hk.mpr q)]; exact hT q
  · rw [if_neg (fun z => q (hk.mp z))]; exact hF (Classical.not_not.mp q)
theorem J_ifne {off : Int} {tg : Nat} {x : Int} (hI : gI y pc = some (.ifCond .ne off, n)) (ht : g_tg pc off = some tg) (r : -2147483648 ≤ x ∧ x ≤ 2147483647) (hT : ¬ x = 0 → g_R xs L y tg lv st M c d o) (hF : x = 0 → g_R xs L y (pc + 3) lv st M c d o) : g_R xs L y pc lv (.int (jI x) :: st) M c d o := by
  refine J_ifc hI ht ?_
  rw [j_c1c2]
  have hk := j_c2 (cd := .ne) r.1 r.2 (y := 0) (by decide) (by decide)
  by_cases q : ¬ x = 0
  · rw [if_pos (hk.mpr q)]; exact hT q
  · rw [if_neg (fun z => q (hk.mp z))]; exact hF (Classical.not_not.mp q)
theorem J_iclt {off : Int} {tg : Nat} {x1 x2 : Int} (hI : gI y pc = some (.if_icmp .lt off, n)) (ht : g_tg pc off = some tg) (r1 : -2147483648 ≤ x1 ∧ x1 ≤ 2147483647) (r2 : -2147483648 ≤ x2 ∧ x2 ≤ 2147483647) (hT : x1 < x2 → g_R xs L y tg lv st M c d o) (hF : x2 ≤ x1 → g_R xs L y (pc + 3) lv st M c d o) : g_R xs L y pc lv (.int (jI x2) :: .int (jI x1) :: st) M c d o := by
  refine J_icmp hI ht ?_
  have hk := j_c2 (cd := .lt) r1.1 r1.2 r2.1 r2.2
  by_cases q : x1 < x2
  · rw [if_pos (hk.mpr q)]; exact hT q
  · rw [if_neg (fun z => q (hk.mp z))]; exact hF (Int.not_lt.mp q)
theorem J_iflt {off : Int} {tg : Nat} {x : Int} (hI : gI y pc = some (.ifCond .lt off, n)) (ht : g_tg pc off = some tg) (r : -2147483648 ≤ x ∧ x ≤ 2147483647) (hT : x < 0 → g_R xs L y tg lv st M c d o) (hF : 0 ≤ x → g_R xs L y (pc + 3) lv st M c d o) : g_R xs L y pc lv (.int (jI x) :: st) M c d o := by
  refine J_ifc hI ht ?_
  rw [j_c1c2]
  have hk := j_c2 (cd := .lt) r.1 r.2 (y := 0) (by decide) (by decide)
  by_cases q : x < 0
  · rw [if_pos (hk.mpr q)]; exact hT q
  · rw [if_neg (fun z => q (hk.mp z))]; exact hF (Int.not_lt.mp q)
theorem J_icge {off : Int} {tg : Nat} {x1 x2 : Int} (hI : gI y pc = some (.if_icmp .ge off, n)) (ht : g_tg pc off = some tg) (r1 : -2147483648 ≤ x1 ∧ x1 ≤ 2147483647) (r2 : -2147483648 ≤ x2 ∧ x2 ≤ 2147483647) (hT : x2 ≤ x1 → g_R xs L y tg lv st M c d o) (hF : x1 < x2 → g_R xs L y (pc + 3) lv st M c d o) : g_R xs L y pc lv (.int (jI x2) :: .int (jI x1) :: st) M c d o := by
  refine J_icmp hI ht ?_
  have hk := j_c2 (cd := .ge) r1.1 r1.2 r2.1 r2.2
  by_cases q : x2 ≤ x1
  · rw [if_pos (hk.mpr q)]; exact hT q
  · rw [if_neg (fun z => q (hk.mp z))]; exact hF (Int.not_le.mp q)
theorem J_ifge {off : Int} {tg : Nat} {x : Int} (hI : gI y pc = some (.ifCond .ge off, n)) (ht : g_tg pc off = some tg) (r : -2147483648 ≤ x ∧ x ≤ 2147483647) (hT : 0 ≤ x → g_R xs L y tg lv st M c d o) (hF : x < 0 → g_R xs L y (pc + 3) lv st M c d o) : g_R xs L y pc lv (.int (jI x) :: st) M c d o := by
  refine J_ifc hI ht ?_
  rw [j_c1c2]
  have hk := j_c2 (cd := .ge) r.1 r.2 (y := 0) (by decide) (by decide)
  by_cases q : 0 ≤ x
  · rw [if_pos (hk.mpr q)]; exact hT q
  · rw [if_neg (fun z => q (hk.mp z))]; exact hF (Int.not_le.mp q)
theorem J_icgt {off : Int} {tg : Nat} {x1 x2 : Int} (hI : gI y pc = some (.if_icmp .gt off, n)) (ht : g_tg pc off = some tg) (r1 : -2147483648 ≤ x1 ∧ x1 ≤ 2147483647) (r2 : -2147483648 ≤ x2 ∧ x2 ≤ 2147483647) (hT : x2 < x1 → g_R xs L y tg lv st M c d o) (hF : x1 ≤ x2 → g_R xs L y (pc + 3) lv st M c d o) : g_R xs L y pc lv (.int (jI x2) :: .int (jI x1) :: st) M c d o := by
  refine J_icmp hI ht ?_
  have hk := j_c2 (cd := .gt) r1.1 r1.2 r2.1 r2.2
  by_cases q : x2 < x1
  · rw [if_pos (hk.mpr q)]; exact hT q
  · rw [if_neg (fun z => q (hk.mp z))]; exact hF (Int.not_lt.mp q)
theorem J_ifgt {off : Int} {tg : Nat} {x : Int} (hI : gI y pc = some (.ifCond .gt off, n)) (ht : g_tg pc off = some tg) (r : -2147483648 ≤ x ∧ x ≤ 2147483647) (hT : 0 < x → g_R xs L y tg lv st M c d o) (hF : x ≤ 0 → g_R xs L y (pc + 3) lv st M c d o) : g_R xs L y pc lv (.int (jI x) :: st) M c d o := by
  refine J_ifc hI ht ?_
  rw [j_c1c2]
  have hk := j_c2 (cd := .gt) r.1 r.2 (y := 0) (by decide) (by decide)
  by_cases q : 0 < x
  · rw [if_pos (hk.mpr q)]; exact hT q
  · rw [if_neg (fun z => q (hk.mp z))]; exact hF (Int.not_lt.mp q)
theorem J_icle {off : Int} {tg : Nat} {x1 x2 : Int} (hI : gI y pc = some (.if_icmp .le off, n)) (ht : g_tg pc off = some tg) (r1 : -2147483648 ≤ x1 ∧ x1 ≤ 2147483647) (r2 : -2147483648 ≤ x2 ∧ x2 ≤ 2147483647) (hT : x1 ≤ x2 → g_R xs L y tg lv st M c d o) (hF : x2 < x1 → g_R xs L y (pc + 3) lv st M c d o) : g_R xs L y pc lv (.int (jI x2) :: .int (jI x1) :: st) M c d o := by
  refine J_icmp hI ht ?_
  have hk := j_c2 (cd := .le) r1.1 r1.2 r2.1 r2.2
  by_cases q : x1 ≤ x2
  · rw [if_pos (hk.mpr q)]; exact hT q
  · rw [if_neg (fun z => q (hk.mp z))]; exact hF (Int.not_le.mp q)
theorem J_ifle {off : Int} {tg : Nat} {x : Int} (hI : gI y pc = some (.ifCond .le off, n)) (ht : g_tg pc off = some tg) (r : -2147483648 ≤ x ∧ x ≤ 2147483647) (hT : x ≤ 0 → g_R xs L y tg lv st M c d o) (hF : 0 < x → g_R xs L y (pc + 3) lv st M c d o) : g_R xs L y pc lv (.int (jI x) :: st) M c d o := by
  refine J_ifc hI ht ?_
  rw [j_c1c2]
  have hk := j_c2 (cd := .le) r.1 r.2 (y := 0) (by decide) (by decide)
  by_cases q : x ≤ 0
  · rw [if_pos (hk.mpr q)]; exact hT q
  · rw [if_neg (fun z => q (hk.mp z))]; exact hF (Int.not_le.mp q)
theorem J_iret {v : Int32} (hI : gI y pc = some (.ireturn, n)) (hR : gR y = some .int) : g_R xs L y pc lv [.int v] M c d (.inl (some (.int v)), M, c, d) :=
  g_R_ret (j_thr hI rfl) hI (by simp only [g_ret, hR]; exact if_pos rfl)
/-- a truth as the machine has it -/
def jb (b : Bool) : Int := bif b then 1 else 0
theorem jb_r (b : Bool) : -2147483648 ≤ jb b ∧ jb b ≤ 2147483647 := by cases b <;> decide
theorem J_zret {b : Bool} (hI : gI y pc = some (.ireturn, n)) (hR : gR y = some .boolean) : g_R xs L y pc lv [.int (jI (jb b))] M c d (.inl (some (.int (jI (jb b)))), M, c, d) :=
  g_R_ret (j_thr hI rfl) hI (by simp only [g_ret, hR]; rw [if_pos (by cases b <;> decide)])
theorem J_lret {v : Int64} (hI : gI y pc = some (.lreturn, n)) (hR : gR y = some .long) : g_R xs L y pc lv [.long v] M c d (.inl (some (.long v)), M, c, d) :=
  g_R_ret (j_thr hI rfl) hI (by simp only [g_ret]; rw [if_pos hR])
theorem J_dret {v : UInt64} (hI : gI y pc = some (.dreturn, n)) (hR : gR y = some .double) : g_R xs L y pc lv [.double v] M c d (.inl (some (.double v)), M, c, d) :=
  g_R_ret (j_thr hI rfl) hI (by simp only [g_ret]; rw [if_pos hR])
theorem J_aret {v : Nat} {ty : FieldType} (hI : gI y pc = some (.areturn, n)) (hR : gR y = some ty) (ht : g_isRef ty = true) : g_R xs L y pc lv [.ref v] M c d (.inl (some (.ref v)), M, c, d) :=
  g_R_ret (j_thr hI rfl) hI (by simp only [g_ret, hR]; rw [if_pos ht])
theorem J_vret (hI : gI y pc = some (.return_, n)) (hR : gR y = none) : g_R xs L y pc lv [] M c d (.inl none, M, c, d) :=
  g_R_ret (j_thr hI rfl) hI (by simp only [g_ret]; rw [if_pos hR])
/-- what is read of the locals behind a store -/
theorem j_lk {i : Nat} {v : Value} : (g_st1 lv i v).lookup i = some v := by
  unfold g_st1
  rw [List.lookup_cons]
  simp
theorem j_flt {p : Nat × Value → Bool} {j : Nat} {v : Value} (hp : p (j, v) = true) : ∀ {l : gL}, l.lookup j = some v → (l.filter p).lookup j = some v
  | [], h => by cases h
  | (a, b) :: l, h => by
    rw [List.lookup_cons] at h
    cases hk : (j == a) with
    | true =>
      rw [hk] at h
      cases h
      have e : j = a := eq_of_beq hk
      subst e
      rw [List.filter_cons_of_pos hp, List.lookup_cons, hk]
    | false =>
      rw [hk] at h
      have ih := j_flt hp h
      rw [List.filter_cons]
      split
      · rw [List.lookup_cons, hk]; exact ih
      · exact ih
theorem j_lkn {i j : Nat} {v w : Value} (h : lv.lookup j = some v) (hv : v.category = 1) (hij : ¬ j = i) : (g_st1 lv i w).lookup j = some v := by
  unfold g_st1
  rw [List.lookup_cons]
  have e : (j == i) = false := beq_eq_false_iff_ne.mpr hij
  rw [e]
  exact j_flt (by simp [e, hv]) h
/-- references below n -/
def j_ok (n : Nat) (lv : gL) : Prop := lv.all (fun q => g_ok n q.2) = true
theorem j_ok_st {n i : Nat} {w : Value} (h : j_ok n lv) (hw : g_ok n w = true) : j_ok n (g_st1 lv i w) := by
  unfold j_ok g_st1
  rw [List.all_cons, hw, Bool.true_and]
  exact List.all_eq_true.mpr fun q hq => List.all_eq_true.mp h q (List.mem_filter.mp hq).1
theorem j_ok_mono {n n' : Nat} (hn : n ≤ n') (h : j_ok n lv) : j_ok n' lv := List.all_eq_true.mpr fun q hq => g_ok_mono hn (List.all_eq_true.mp h q hq)
end JS
/-! calls -/
def j_ivc (y z na kd md : Nat) : Bool := decide (kd < 100) && (decide (z ≠ g_ylaw) && (decide (gF z + 1 ≤ gF y) && (decide (8 + (gLo z + 11) + gW z ≤ gW y) && (decide (gm_hw.getD z false = decide (kd = 6)) && (decide (na + (if md = 0 then 0 else 1) ≤ gLo z) && (if md = 0 then decide (kd = 0 ∨ kd = 3 ∨ kd = 6) else if md = 1 then decide (kd = 1 ∨ kd = 4) else decide (kd = 2 ∨ kd = 5)))))))
theorem j_sl1 : ∀ l : List Value, l.all (fun v => v.category == 1) = true → (lg_sl l).length = l.length
  | [], _ => rfl
  | v :: l, h => by
    simp only [List.all_cons, Bool.and_eq_true, beq_iff_eq] at h
    have ih := j_sl1 l h.2
    simp only [lg_sl, List.flatMap_cons, List.length_append] at ih ⊢
    rw [ih, h.1]
    simp
    omega
section JC
variable {xs : Nat → Int32} {L y pc n : Nat} {lv : gL} {rest : List Value} {M : gM} {c d : Nat} {o : gOut}
/-- a call of a method on an object: the arguments on the stack, the last one first -/
theorem J_inv {ix z na kd ci a : Nat} {rs : Nat × Nat × Nat × Nat × Option String} {args : List Value} {i : Instr} {md : Nat} (hx : g_ivx i = some (md, ix)) (hmd : ¬ md = 0) (hiv : gIv y ix = some (z, na, kd, ci, rs)) (hk : j_ivc y z na kd md = true) (hna : args.length = na) (hcat : args.all (fun v => v.category == 1) = true) (hrest : (rest.map fun v => v.category).sum ≤ 8) (hrc : md = 1 → g_rcv M a ci = true) (hmd2 : md = 1 ∨ md = 2) (hlv : j_ok M.1 lv) (hargs : args.all (g_ok M.1) = true) (ha : a < M.1) (hr : rest.all (g_ok M.1) = true) : g_inv y i (args ++ .ref a :: rest) lv M = some (z, .ref a :: args.reverse, rest) := by
  simp only [j_ivc, Bool.and_eq_true, decide_eq_true_eq] at hk
  obtain ⟨k1, k2, k3, k4, k5, k6, k7⟩ := hk
  rw [if_neg hmd] at k6 k7
  unfold g_inv
  rw [hx]
  dsimp only
  rw [hiv]
  dsimp only
  have e1 : (args ++ .ref a :: rest).take na = args := by rw [← hna]; simp
  have e2 : (args ++ .ref a :: rest).drop na = .ref a :: rest := by rw [← hna]; simp
  rw [if_pos ⟨k1, k2, by simp [← hna], k3, k4, k5, hlv, by simp [List.all_append, hargs, hr, g_ok, ha]⟩, if_neg hmd, e1, e2]
  dsimp only
  have e3 : (lg_sl (.ref a :: args.reverse)).length ≤ gLo z := by
    rw [j_sl1 _ (by simp only [List.all_cons, List.all_reverse]; rw [hcat]; rfl)]
    simp only [List.length_cons, List.length_reverse]
    omega
  refine if_pos ⟨e3, hrest, ?_⟩
  rcases hmd2 with rfl | rfl
  · rw [if_pos rfl] at k7
    exact Or.inl ⟨rfl, of_decide_eq_true k7, hrc rfl⟩
  · rw [if_neg (by decide)] at k7
    exact Or.inr ⟨rfl, of_decide_eq_true k7⟩
theorem J_invS {ix z na kd ci : Nat} {rs : Nat × Nat × Nat × Nat × Option String} {args : List Value} (hiv : gIv y ix = some (z, na, kd, ci, rs)) (hk : j_ivc y z na kd 0 = true) (hna : args.length = na) (hcat : args.all (fun v => v.category == 1) = true) (hrest : (rest.map fun v => v.category).sum ≤ 8) (hlv : j_ok M.1 lv) (hargs : args.all (g_ok M.1) = true) (hr : rest.all (g_ok M.1) = true) : g_inv y (.invokestatic ix) (args ++ rest) lv M = some (z, args.reverse, rest) := by
  simp only [j_ivc, Bool.and_eq_true, decide_eq_true_eq] at hk
  obtain ⟨k1, k2, k3, k4, k5, k6, k7⟩ := hk
  unfold g_inv
  rw [show g_ivx (.invokestatic ix) = some (0, ix) from rfl]
  dsimp only
  rw [hiv]
  dsimp only
  have e1 : (args ++ rest).take na = args := by rw [← hna]; simp
  have e2 : (args ++ rest).drop na = rest := by rw [← hna]; simp
  rw [if_pos ⟨k1, k2, by simp [← hna], k3, k4, k5, hlv, by simp [List.all_append, hargs, hr]⟩, if_pos rfl, e1, e2]
  refine if_pos ⟨by simpa using k7, ?_, hrest⟩
  rw [j_sl1 _ (by rw [List.all_reverse]; exact hcat), List.length_reverse]
  simpa [hna] using k6
end JC
