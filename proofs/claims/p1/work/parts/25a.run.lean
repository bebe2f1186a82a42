def s_I (a b : Int) : sI := [(-2147483648, 2147483647), (-2147483648, 2147483647), (-2147483648, 2147483647), (-2147483648, 2147483647), (-2147483648, 2147483647), (-2147483648, 2147483647), (a, b)]
def s_M0 : sM := (2, List.replicate 40 (List.replicate 16 none))
noncomputable def s_fin : sI → sOut → Bool := fun _ o => match o with
  | (.inl (.inl (some (.inl (.int v)))), _, c, d) => decide (v = 1) && (decide (c ≤ 722355) && decide (d ≤ 6935171))
  | _ => false
set_option maxRecDepth 1000000 in
theorem s_R0 : s_run (fun _ _ _ _ _ _ _ _ => none) 0 100000 none (s_I 0 31) g_ylaw 0 [(0, .inl (.ref 0))] [] s_M0 0 0 s_fin = true := by decide +kernel
set_option maxRecDepth 1000000 in
theorem s_R1 : s_run (fun _ _ _ _ _ _ _ _ => none) 1 100000 none (s_I 0 31) g_ylaw 0 [(0, .inl (.ref 0))] [] s_M0 0 0 s_fin = true := by decide +kernel
set_option maxRecDepth 1000000 in
theorem s_R2 : s_run (fun _ _ _ _ _ _ _ _ => none) 2 100000 none (s_I 0 31) g_ylaw 0 [(0, .inl (.ref 0))] [] s_M0 0 0 s_fin = true := by decide +kernel
set_option maxRecDepth 1000000 in
theorem s_R3 : s_run (fun _ _ _ _ _ _ _ _ => none) 3 100000 none (s_I 0 31) g_ylaw 0 [(0, .inl (.ref 0))] [] s_M0 0 0 s_fin = true := by decide +kernel
set_option maxRecDepth 1000000 in
theorem s_R4 : s_run (fun _ _ _ _ _ _ _ _ => none) 4 100000 none (s_I 0 31) g_ylaw 0 [(0, .inl (.ref 0))] [] s_M0 0 0 s_fin = true := by decide +kernel
set_option maxRecDepth 1000000 in
theorem s_R5 : s_run (fun _ _ _ _ _ _ _ _ => none) 5 100000 none (s_I 0 31) g_ylaw 0 [(0, .inl (.ref 0))] [] s_M0 0 0 s_fin = true := by decide +kernel
