set_option maxRecDepth 100000 in
theorem gv_me_0 : gp_me 0 = true := by decide +kernel
set_option maxRecDepth 100000 in
theorem gv_me_1 : gp_me 1 = true := by decide +kernel
set_option maxRecDepth 100000 in
theorem gv_me_2 : gp_me 2 = true := by decide +kernel
set_option maxRecDepth 100000 in
theorem gv_me_3 : gp_me 3 = true := by decide +kernel
set_option maxRecDepth 100000 in
theorem gv_me_4 : gp_me 4 = true := by decide +kernel
set_option maxRecDepth 100000 in
theorem gv_me_5 : gp_me 5 = true := by decide +kernel
set_option maxRecDepth 100000 in
theorem gv_me_6 : gp_me 6 = true := by decide +kernel
set_option maxRecDepth 100000 in
theorem gv_me_7 : gp_me 7 = true := by decide +kernel
set_option maxRecDepth 100000 in
theorem gv_me_8 : gp_me 8 = true := by decide +kernel
set_option maxRecDepth 100000 in
theorem gv_me_9 : gp_me 9 = true := by decide +kernel
set_option maxRecDepth 100000 in
theorem gv_me_10 : gp_me 10 = true := by decide +kernel
set_option maxRecDepth 100000 in
theorem gv_me_11 : gp_me 11 = true := by decide +kernel
set_option maxRecDepth 100000 in
theorem gv_me_12 : gp_me 12 = true := by decide +kernel
set_option maxRecDepth 100000 in
theorem gv_me_13 : gp_me 13 = true := by decide +kernel
set_option maxRecDepth 100000 in
theorem gv_me_14 : gp_me 14 = true := by decide +kernel
set_option maxRecDepth 100000 in
theorem gv_me_15 : gp_me 15 = true := by decide +kernel
set_option maxRecDepth 100000 in
theorem gv_me_16 : gp_me 16 = true := by decide +kernel
set_option maxRecDepth 100000 in
theorem gv_me_17 : gp_me 17 = true := by decide +kernel
set_option maxRecDepth 100000 in
theorem gv_me_18 : gp_me 18 = true := by decide +kernel
set_option maxRecDepth 100000 in
theorem gv_me_19 : gp_me 19 = true := by decide +kernel
set_option maxRecDepth 100000 in
theorem gv_me_20 : gp_me 20 = true := by decide +kernel
set_option maxRecDepth 100000 in
theorem gv_me_21 : gp_me 21 = true := by decide +kernel
set_option maxRecDepth 100000 in
theorem gv_me_22 : gp_me 22 = true := by decide +kernel
set_option maxRecDepth 100000 in
theorem gv_me_23 : gp_me 23 = true := by decide +kernel
set_option maxRecDepth 100000 in
theorem gv_me_24 : gp_me 24 = true := by decide +kernel
set_option maxRecDepth 100000 in
theorem gv_me_25 : gp_me 25 = true := by decide +kernel
set_option maxRecDepth 100000 in
theorem gv_me_26 : gp_me 26 = true := by decide +kernel
set_option maxRecDepth 100000 in
theorem gv_me_27 : gp_me 27 = true := by decide +kernel
set_option maxRecDepth 100000 in
theorem gv_me_28 : gp_me 28 = true := by decide +kernel
set_option maxRecDepth 100000 in
theorem gv_me_29 : gp_me 29 = true := by decide +kernel
