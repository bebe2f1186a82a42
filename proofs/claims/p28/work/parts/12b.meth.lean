set_option maxRecDepth 100000 in
theorem gv_me_30 : gp_me 30 = true := by decide +kernel
set_option maxRecDepth 100000 in
theorem gv_me_31 : gp_me 31 = true := by decide +kernel
set_option maxRecDepth 100000 in
theorem gv_me_32 : gp_me 32 = true := by decide +kernel
set_option maxRecDepth 100000 in
theorem gv_me_33 : gp_me 33 = true := by decide +kernel
set_option maxRecDepth 100000 in
theorem gv_me_34 : gp_me 34 = true := by decide +kernel
set_option maxRecDepth 100000 in
theorem gv_me_35 : gp_me 35 = true := by decide +kernel
set_option maxRecDepth 100000 in
theorem gv_me_36 : gp_me 36 = true := by decide +kernel
set_option maxRecDepth 100000 in
theorem gv_me_37 : gp_me 37 = true := by decide +kernel
set_option maxRecDepth 100000 in
theorem gv_me_38 : gp_me 38 = true := by decide +kernel
set_option maxRecDepth 100000 in
theorem gv_me_39 : gp_me 39 = true := by decide +kernel
set_option maxRecDepth 100000 in
theorem gv_me_40 : gp_me 40 = true := by decide +kernel
set_option maxRecDepth 100000 in
theorem gv_me_41 : gp_me 41 = true := by decide +kernel
set_option maxRecDepth 100000 in
theorem gv_me_42 : gp_me 42 = true := by decide +kernel
set_option maxRecDepth 100000 in
theorem gv_me_43 : gp_me 43 = true := by decide +kernel
set_option maxRecDepth 100000 in
theorem gv_me_44 : gp_me 44 = true := by decide +kernel
set_option maxRecDepth 100000 in
theorem gv_me_45 : gp_me 45 = true := by decide +kernel
set_option maxRecDepth 100000 in
theorem gv_me_46 : gp_me 46 = true := by decide +kernel
set_option maxRecDepth 100000 in
theorem gv_me_47 : gp_me 47 = true := by decide +kernel
set_option maxRecDepth 100000 in
theorem gv_me_48 : gp_me 48 = true := by decide +kernel
set_option maxRecDepth 100000 in
theorem gv_me_49 : gp_me 49 = true := by decide +kernel
set_option maxRecDepth 100000 in
theorem gv_me_50 : gp_me 50 = true := by decide +kernel
set_option maxRecDepth 100000 in
theorem gv_me_51 : gp_me 51 = true := by decide +kernel
set_option maxRecDepth 100000 in
theorem gv_me_52 : gp_me 52 = true := by decide +kernel
set_option maxRecDepth 100000 in
theorem gv_me_53 : gp_me 53 = true := by decide +kernel
set_option maxRecDepth 100000 in
theorem gv_me_54 : gp_me 54 = true := by decide +kernel
set_option maxRecDepth 100000 in
theorem gv_me_55 : gp_me 55 = true := by decide +kernel
