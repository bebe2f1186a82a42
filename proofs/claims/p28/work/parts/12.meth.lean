set_option maxRecDepth 100000 in
theorem gv_me_0 : gp_me 0 = true := by decide +kernel
set_option maxRecDepth 100000 in
theorem gv_me_1 : gp_me 1 = true := by decide +kernel
set_option maxRecDepth 100000 in
theorem gv_me_2 : gp_me 2 = true := by decide +kernel
set_option maxRecDepth 100000 in
theorem gv_me_3 : gp_me 3 = true := by decide +kernel
set_option maxRecDepth 100000 in
theorem gv_me_4 : gp_me 4 = true := by decide +kernel
set_option maxRecDepth 100000 in
theorem gv_me_5 : gp_me 5 = true := by decide +kernel
set_option maxRecDepth 100000 in
theorem gv_me_6 : gp_me 6 = true := by decide +kernel
set_option maxRecDepth 100000 in
theorem gv_me_7 : gp_me 7 = true := by decide +kernel
set_option maxRecDepth 100000 in
theorem gv_me_8 : gp_me 8 = true := by decide +kernel
set_option maxRecDepth 100000 in
theorem gv_me_9 : gp_me 9 = true := by decide +kernel
set_option maxRecDepth 100000 in
theorem gv_me_10 : gp_me 10 = true := by decide +kernel
set_option maxRecDepth 100000 in
theorem gv_me_11 : gp_me 11 = true := by decide +kernel
set_option maxRecDepth 100000 in
theorem gv_me_12 : gp_me 12 = true := by decide +kernel
set_option maxRecDepth 100000 in
theorem gv_me_13 : gp_me 13 = true := by decide +kernel
set_option maxRecDepth 100000 in
theorem gv_me_14 : gp_me 14 = true := by decide +kernel
set_option maxRecDepth 100000 in
theorem gv_me_15 : gp_me 15 = true := by decide +kernel
set_option maxRecDepth 100000 in
theorem gv_me_16 : gp_me 16 = true := by decide +kernel
set_option maxRecDepth 100000 in
theorem gv_me_17 : gp_me 17 = true := by decide +kernel
set_option maxRecDepth 100000 in
theorem gv_me_18 : gp_me 18 = true := by decide +kernel
set_option maxRecDepth 100000 in
theorem gv_me_19 : gp_me 19 = true := by decide +kernel
set_option maxRecDepth 100000 in
theorem gv_me_20 : gp_me 20 = true := by decide +kernel
set_option maxRecDepth 100000 in
theorem gv_me_21 : gp_me 21 = true := by decide +kernel
set_option maxRecDepth 100000 in
theorem gv_me_22 : gp_me 22 = true := by decide +kernel
set_option maxRecDepth 100000 in
theorem gv_me_23 : gp_me 23 = true := by decide +kernel
set_option maxRecDepth 100000 in
theorem gv_me_24 : gp_me 24 = true := by decide +kernel
set_option maxRecDepth 100000 in
theorem gv_me_25 : gp_me 25 = true := by decide +kernel
set_option maxRecDepth 100000 in
theorem gv_me_26 : gp_me 26 = true := by decide +kernel
set_option maxRecDepth 100000 in
theorem gv_me_27 : gp_me 27 = true := by decide +kernel
set_option maxRecDepth 100000 in
theorem gv_me_28 : gp_me 28 = true := by decide +kernel
set_option maxRecDepth 100000 in
theorem gv_me_29 : gp_me 29 = true := by decide +kernel
set_option maxRecDepth 100000 in
theorem gv_me_30 : gp_me 30 = true := by decide +kernel
set_option maxRecDepth 100000 in
theorem gv_me_31 : gp_me 31 = true := by decide +kernel
set_option maxRecDepth 100000 in
theorem gv_me_32 : gp_me 32 = true := by decide +kernel
set_option maxRecDepth 100000 in
theorem gv_me_33 : gp_me 33 = true := by decide +kernel
set_option maxRecDepth 100000 in
theorem gv_me_34 : gp_me 34 = true := by decide +kernel
set_option maxRecDepth 100000 in
theorem gv_me_35 : gp_me 35 = true := by decide +kernel
set_option maxRecDepth 100000 in
theorem gv_me_36 : gp_me 36 = true := by decide +kernel
set_option maxRecDepth 100000 in
theorem gv_me_37 : gp_me 37 = true := by decide +kernel
set_option maxRecDepth 100000 in
theorem gv_me_38 : gp_me 38 = true := by decide +kernel
set_option maxRecDepth 100000 in
theorem gv_me_39 : gp_me 39 = true := by decide +kernel
set_option maxRecDepth 100000 in
theorem gv_me_40 : gp_me 40 = true := by decide +kernel
set_option maxRecDepth 100000 in
theorem gv_me_41 : gp_me 41 = true := by decide +kernel
set_option maxRecDepth 100000 in
theorem gv_me_42 : gp_me 42 = true := by decide +kernel
set_option maxRecDepth 100000 in
theorem gv_me_43 : gp_me 43 = true := by decide +kernel
set_option maxRecDepth 100000 in
theorem gv_me_44 : gp_me 44 = true := by decide +kernel
set_option maxRecDepth 100000 in
theorem gv_me_45 : gp_me 45 = true := by decide +kernel
set_option maxRecDepth 100000 in
theorem gv_me_46 : gp_me 46 = true := by decide +kernel
set_option maxRecDepth 100000 in
theorem gv_me_47 : gp_me 47 = true := by decide +kernel
set_option maxRecDepth 100000 in
theorem gv_me_48 : gp_me 48 = true := by decide +kernel
set_option maxRecDepth 100000 in
theorem gv_me_49 : gp_me 49 = true := by decide +kernel
set_option maxRecDepth 100000 in
theorem gv_me_50 : gp_me 50 = true := by decide +kernel
set_option maxRecDepth 100000 in
theorem gv_me_51 : gp_me 51 = true := by decide +kernel
set_option maxRecDepth 100000 in
theorem gv_me_52 : gp_me 52 = true := by decide +kernel
set_option maxRecDepth 100000 in
theorem gv_me_53 : gp_me 53 = true := by decide +kernel
set_option maxRecDepth 100000 in
theorem gv_me_54 : gp_me 54 = true := by decide +kernel
set_option maxRecDepth 100000 in
theorem gv_me_55 : gp_me 55 = true := by decide +kernel
set_option maxRecDepth 100000 in
theorem gv_me_56 : gp_me 56 = true := by decide +kernel
set_option maxRecDepth 100000 in
theorem gv_me_57 : gp_me 57 = true := by decide +kernel
set_option maxRecDepth 100000 in
theorem gv_me_58 : gp_me 58 = true := by decide +kernel
set_option maxRecDepth 100000 in
theorem gv_me_59 : gp_me 59 = true := by decide +kernel
set_option maxRecDepth 100000 in
theorem gv_me_60 : gp_me 60 = true := by decide +kernel
set_option maxRecDepth 100000 in
theorem gv_me_61 : gp_me 61 = true := by decide +kernel
set_option maxRecDepth 100000 in
theorem gv_me_62 : gp_me 62 = true := by decide +kernel
set_option maxRecDepth 100000 in
theorem gv_me_63 : gp_me 63 = true := by decide +kernel
set_option maxRecDepth 100000 in
theorem gv_me_64 : gp_me 64 = true := by decide +kernel
set_option maxRecDepth 100000 in
theorem gv_me_65 : gp_me 65 = true := by decide +kernel
set_option maxRecDepth 100000 in
theorem gv_me_66 : gp_me 66 = true := by decide +kernel
set_option maxRecDepth 100000 in
theorem gv_me_67 : gp_me 67 = true := by decide +kernel
set_option maxRecDepth 100000 in
theorem gv_me_68 : gp_me 68 = true := by decide +kernel
set_option maxRecDepth 100000 in
theorem gv_me_69 : gp_me 69 = true := by decide +kernel
set_option maxRecDepth 100000 in
theorem gv_me_70 : gp_me 70 = true := by decide +kernel
set_option maxRecDepth 100000 in
theorem gv_me_71 : gp_me 71 = true := by decide +kernel
set_option maxRecDepth 100000 in
theorem gv_me_72 : gp_me 72 = true := by decide +kernel
set_option maxRecDepth 100000 in
theorem gv_me_73 : gp_me 73 = true := by decide +kernel
set_option maxRecDepth 100000 in
theorem gv_me_74 : gp_me 74 = true := by decide +kernel
set_option maxRecDepth 100000 in
theorem gv_me_all : ∀ y ∈ ([0, 1, 2, 3, 4, 5, 6, 7, 8, 9, 10, 11, 12, 13, 14, 15, 16, 17, 18, 19, 20, 21, 22, 23, 24, 25, 26, 27, 28, 29, 30, 31, 32, 33, 34, 35, 36, 37, 38, 39, 40, 41, 42, 43, 44, 45, 46, 47, 48, 49, 50, 51, 52, 53, 54, 55, 56, 57, 58, 59, 60, 61, 62, 63, 64, 65, 66, 67, 68, 69, 70, 71, 72, 73, 74] : List Nat), gp_me y = true := List.forall_mem_cons.mpr ⟨gv_me_0, List.forall_mem_cons.mpr ⟨gv_me_1, List.forall_mem_cons.mpr ⟨gv_me_2, List.forall_mem_cons.mpr ⟨gv_me_3, List.forall_mem_cons.mpr ⟨gv_me_4, List.forall_mem_cons.mpr ⟨gv_me_5, List.forall_mem_cons.mpr ⟨gv_me_6, List.forall_mem_cons.mpr ⟨gv_me_7, List.forall_mem_cons.mpr ⟨gv_me_8, List.forall_mem_cons.mpr ⟨gv_me_9, List.forall_mem_cons.mpr ⟨gv_me_10, List.forall_mem_cons.mpr ⟨gv_me_11, List.forall_mem_cons.mpr ⟨gv_me_12, List.forall_mem_cons.mpr ⟨gv_me_13, List.forall_mem_cons.mpr ⟨gv_me_14, List.forall_mem_cons.mpr ⟨gv_me_15, List.forall_mem_cons.mpr ⟨gv_me_16, List.forall_mem_cons.mpr ⟨gv_me_17, List.forall_mem_cons.mpr ⟨gv_me_18, List.forall_mem_cons.mpr ⟨gv_me_19, List.forall_mem_cons.mpr ⟨gv_me_20, List.forall_mem_cons.mpr ⟨gv_me_21, List.forall_mem_cons.mpr ⟨gv_me_22, List.forall_mem_cons.mpr ⟨gv_me_23, List.forall_mem_cons.mpr ⟨gv_me_24, List.forall_mem_cons.mpr ⟨gv_me_25, List.forall_mem_cons.mpr ⟨gv_me_26, List.forall_mem_cons.mpr ⟨gv_me_27, List.forall_mem_cons.mpr ⟨gv_me_28, List.forall_mem_cons.mpr ⟨gv_me_29, List.forall_mem_cons.mpr ⟨gv_me_30, List.forall_mem_cons.mpr ⟨gv_me_31, List.forall_mem_cons.mpr ⟨gv_me_32, List.forall_mem_cons.mpr ⟨gv_me_33, List.forall_mem_cons.mpr ⟨gv_me_34, List.forall_mem_cons.mpr ⟨gv_me_35, List.forall_mem_cons.mpr ⟨gv_me_36, List.forall_mem_cons.mpr ⟨gv_me_37, List.forall_mem_cons.mpr ⟨gv_me_38, List.forall_mem_cons.mpr ⟨gv_me_39, List.forall_mem_cons.mpr ⟨gv_me_40, List.forall_mem_cons.mpr ⟨gv_me_41, List.forall_mem_cons.mpr ⟨gv_me_42, List.forall_mem_cons.mpr ⟨gv_me_43, List.forall_mem_cons.mpr ⟨gv_me_44, List.forall_mem_cons.mpr ⟨gv_me_45, List.forall_mem_cons.mpr ⟨gv_me_46, List.forall_mem_cons.mpr ⟨gv_me_47, List.forall_mem_cons.mpr ⟨gv_me_48, List.forall_mem_cons.mpr ⟨gv_me_49, List.forall_mem_cons.mpr ⟨gv_me_50, List.forall_mem_cons.mpr ⟨gv_me_51, List.forall_mem_cons.mpr ⟨gv_me_52, List.forall_mem_cons.mpr ⟨gv_me_53, List.forall_mem_cons.mpr ⟨gv_me_54, List.forall_mem_cons.mpr ⟨gv_me_55, List.forall_mem_cons.mpr ⟨gv_me_56, List.forall_mem_cons.mpr ⟨gv_me_57, List.forall_mem_cons.mpr ⟨gv_me_58, List.forall_mem_cons.mpr ⟨gv_me_59, List.forall_mem_cons.mpr ⟨gv_me_60, List.forall_mem_cons.mpr ⟨gv_me_61, List.forall_mem_cons.mpr ⟨gv_me_62, List.forall_mem_cons.mpr ⟨gv_me_63, List.forall_mem_cons.mpr ⟨gv_me_64, List.forall_mem_cons.mpr ⟨gv_me_65, List.forall_mem_cons.mpr ⟨gv_me_66, List.forall_mem_cons.mpr ⟨gv_me_67, List.forall_mem_cons.mpr ⟨gv_me_68, List.forall_mem_cons.mpr ⟨gv_me_69, List.forall_mem_cons.mpr ⟨gv_me_70, List.forall_mem_cons.mpr ⟨gv_me_71, List.forall_mem_cons.mpr ⟨gv_me_72, List.forall_mem_cons.mpr ⟨gv_me_73, List.forall_mem_cons.mpr ⟨gv_me_74, fun _ h => absurd h List.not_mem_nil⟩⟩⟩⟩⟩⟩⟩⟩⟩⟩⟩⟩⟩⟩⟩⟩⟩⟩⟩⟩⟩⟩⟩⟩⟩⟩⟩⟩⟩⟩⟩⟩⟩⟩⟩⟩⟩⟩⟩⟩⟩⟩⟩⟩⟩⟩⟩⟩⟩⟩⟩⟩⟩⟩⟩⟩⟩⟩⟩⟩⟩⟩⟩⟩⟩⟩⟩⟩⟩⟩⟩⟩⟩⟩⟩
theorem gv_me {y : Nat} (h : y < gm_CI.length) : gp_me y = true := gv_me_all y (by
  have e : List.range gm_CI.length = ([0, 1, 2, 3, 4, 5, 6, 7, 8, 9, 10, 11, 12, 13, 14, 15, 16, 17, 18, 19, 20, 21, 22, 23, 24, 25, 26, 27, 28, 29, 30, 31, 32, 33, 34, 35, 36, 37, 38, 39, 40, 41, 42, 43, 44, 45, 46, 47, 48, 49, 50, 51, 52, 53, 54, 55, 56, 57, 58, 59, 60, 61, 62, 63, 64, 65, 66, 67, 68, 69, 70, 71, 72, 73, 74] : List Nat) := by decide +kernel
  rw [← e]; exact List.mem_range.mpr h)
