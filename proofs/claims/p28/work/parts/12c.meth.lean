set_option maxRecDepth 100000 in
theorem gv_me_56 : gp_me 56 = true := by decide +kernel
set_option maxRecDepth 100000 in
theorem gv_me_57 : gp_me 57 = true := by decide +kernel
set_option maxRecDepth 100000 in
theorem gv_me_58 : gp_me 58 = true := by decide +kernel
set_option maxRecDepth 100000 in
theorem gv_me_59 : gp_me 59 = true := by decide +kernel
set_option maxRecDepth 100000 in
theorem gv_me_60 : gp_me 60 = true := by decide +kernel
set_option maxRecDepth 100000 in
theorem gv_me_61 : gp_me 61 = true := by decide +kernel
set_option maxRecDepth 100000 in
theorem gv_me_62 : gp_me 62 = true := by decide +kernel
set_option maxRecDepth 100000 in
theorem gv_me_63 : gp_me 63 = true := by decide +kernel
set_option maxRecDepth 100000 in
theorem gv_me_64 : gp_me 64 = true := by decide +kernel
set_option maxRecDepth 100000 in
theorem gv_me_65 : gp_me 65 = true := by decide +kernel
set_option maxRecDepth 100000 in
theorem gv_me_66 : gp_me 66 = true := by decide +kernel
