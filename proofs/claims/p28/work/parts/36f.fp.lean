/-! doubles: the mean height times the bars is the sum, near enough -/
def fpN (x : UInt64) : Bool := decide (x &&& 0x7fffffffffffffff ≤ 0x7ff0000000000000)
def fpOk (s n : Nat) : Bool := fpN (FP.ddiv (FP.i2d (jI (s : Int))) (FP.i2d (jI (n : Int)))) && (fpN (FP.dmul (FP.ddiv (FP.i2d (jI (s : Int))) (FP.i2d (jI (n : Int)))) (FP.i2d (jI (n : Int)))) && (fpN (FP.dsub (FP.dmul (FP.ddiv (FP.i2d (jI (s : Int))) (FP.i2d (jI (n : Int)))) (FP.i2d (jI (n : Int)))) (FP.i2d (jI (s : Int)))) &&
  decide (Op.cmpValue (FP.dcmp (FP.dsub (FP.dmul (FP.ddiv (FP.i2d (jI (s : Int))) (FP.i2d (jI (n : Int)))) (FP.i2d (jI (n : Int)))) (FP.i2d (jI (s : Int))) &&& 0x7fffffffffffffff) 4547007122018943789) .l = jI (-1))))
set_option maxRecDepth 100000 in
theorem fpT : [2, 3, 4, 5, 6, 7, 8].all (fun n => (List.range (120 * n + 1)).all (fun s => fpOk s n)) = true := by decide +kernel
theorem fp_at {s n : Nat} (h2 : 2 ≤ n) (h8 : n ≤ 8) (hs : s ≤ 120 * n) : fpOk s n = true :=
  List.all_eq_true.mp (List.all_eq_true.mp fpT n (by
    have : n = 2 ∨ n = 3 ∨ n = 4 ∨ n = 5 ∨ n = 6 ∨ n = 7 ∨ n = 8 := by omega
    rcases this with rfl | rfl | rfl | rfl | rfl | rfl | rfl <;> simp)) s (List.mem_range.mpr (by omega))
