set_option maxRecDepth 1000000 in
theorem s_R6d : s_run s_mac 6 100000 none (s_I 22 22) g_ylaw 0 [(0, .inl (.ref 0))] [] s_M0 0 0 s_fin = true := by decide +kernel
