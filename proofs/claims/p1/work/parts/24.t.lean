def s_mac0 : sMac := fun _ _ _ _ _ _ _ _ => none
def s_I0 : sI := [(-2147483648, 2147483647), (-2147483648, 2147483647), (-2147483648, 2147483647), (-2147483648, 2147483647), (-2147483648, 2147483647), (-2147483648, 2147483647), (0, 31)]
def s_M0 : sM := (2, List.replicate 40 (List.replicate 16 none))
def s_fin : sI → sOut → Bool := fun _ o => match o with
  | (.inl (.inl (some (.inl (.int v)))), _, c, d) => decide (v = 1) && (decide (c ≤ 722355) && decide (d ≤ 6935171))
  | _ => false
set_option maxRecDepth 1000000 in
theorem s_L0 : s_run s_mac0 0 100000 none s_I0 g_ylaw 0 [(0, .inl (.ref 0))] [] s_M0 0 0 s_fin = true := by decide +kernel
