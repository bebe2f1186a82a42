/-! whole numbers on the machine's stack -/
abbrev jI (x : Int) : Int32 := Int32.ofInt x
theorem jI_add (x y : Int) : jI x + jI y = jI (x + y) := (Int32.ofInt_add x y).symm
theorem jI_sub (x y : Int) : jI x - jI y = jI (x - y) := (Int32.ofInt_sub x y).symm
theorem jI_mul (x y : Int) : jI x * jI y = jI (x * y) := (Int32.ofInt_mul x y).symm
theorem jI_neg (x : Int) : - jI x = jI (-x) := (Int32.ofInt_neg x).symm
theorem jI_int {x : Int} (h1 : -2147483648 ≤ x) (h2 : x ≤ 2147483647) : (jI x).toInt = x :=
  Int32.toInt_ofInt_of_le (by omega) (by omega)
theorem jI_lt {x y : Int} (x1 : -2147483648 ≤ x) (x2 : x ≤ 2147483647) (y1 : -2147483648 ≤ y) (y2 : y ≤ 2147483647) : (jI x < jI y) ↔ x < y := by
  rw [Int32.lt_iff_toInt_lt, jI_int x1 x2, jI_int y1 y2]
theorem jI_le {x y : Int} (x1 : -2147483648 ≤ x) (x2 : x ≤ 2147483647) (y1 : -2147483648 ≤ y) (y2 : y ≤ 2147483647) : (jI x ≤ jI y) ↔ x ≤ y := by
  rw [Int32.le_iff_toInt_le, jI_int x1 x2, jI_int y1 y2]
theorem jI_eq {x y : Int} (x1 : -2147483648 ≤ x) (x2 : x ≤ 2147483647) (y1 : -2147483648 ≤ y) (y2 : y ≤ 2147483647) : (jI x = jI y) ↔ x = y := by
  constructor
  · intro h
    have := congrArg Int32.toInt h
    rwa [jI_int x1 x2, jI_int y1 y2] at this
  · intro h; rw [h]
theorem jI_nat {x : Int} (h1 : 0 ≤ x) (h2 : x ≤ 2147483647) : (jI x).toNatClampNeg = x.toNat := by
  show (jI x).toInt.toNat = _
  rw [jI_int (by omega) h2]
/-- what a comparison says -/
def j_c (cd : Jvm.ClassFile.Cond) (x y : Int) : Prop := match cd with
  | .eq => x = y
  | .ne => ¬ x = y
  | .lt => x < y
  | .ge => y ≤ x
  | .gt => y < x
  | .le => x ≤ y
theorem j_c2 {cd : Jvm.ClassFile.Cond} {x y : Int} (x1 : -2147483648 ≤ x) (x2 : x ≤ 2147483647) (y1 : -2147483648 ≤ y) (y2 : y ≤ 2147483647) : (g_c2 cd (jI x) (jI y) = true) ↔ j_c cd x y := by
  cases cd
  · simp only [g_c2, j_c, decide_eq_true_eq]; exact jI_eq x1 x2 y1 y2
  · simp only [g_c2, j_c, decide_eq_true_eq]; exact not_congr (jI_eq x1 x2 y1 y2)
  · simp only [g_c2, j_c, decide_eq_true_eq]; exact jI_lt x1 x2 y1 y2
  · simp only [g_c2, j_c, decide_eq_true_eq]; exact jI_le y1 y2 x1 x2
  · simp only [g_c2, j_c, decide_eq_true_eq]; exact jI_lt y1 y2 x1 x2
  · simp only [g_c2, j_c, decide_eq_true_eq]; exact jI_le x1 x2 y1 y2
theorem j_c1c2 (cd : Jvm.ClassFile.Cond) (x : Int32) : g_c1 cd x = g_c2 cd x (jI 0) := by cases cd <;> rfl
