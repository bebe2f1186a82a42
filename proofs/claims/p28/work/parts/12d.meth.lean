theorem gp_w_mk {j : Nat} {w : Cond} (h : lw_tbl[j]? = some w) (hg : g_gw w = true) : gp_w j w = true := by
  unfold gp_w
  rw [decide_eq_true h, hg]
  rfl
theorem gp_bytes {b C : ByteArray} (h : b.data.toList = C.data.toList) : b = C := by
  obtain ⟨b⟩ := b
  obtain ⟨C⟩ := C
  have h2 : b = C := Array.ext' h
  rw [h2]
theorem gp_code {o : Option Cond} {N : MethodName} {C : ByteArray} {l : Nat} {r : Option FieldType} (h : (match o with
    | some (.code n b l2 r2) => decide (n = N) && (decide (b.data.toList = C.data.toList) && (decide (l2 = l) && decide (r2 = r)))
    | _ => false) = true) : o = some (.code N C l r) := by
  split at h
  · simp only [Bool.and_eq_true, decide_eq_true_eq] at h
    obtain ⟨rfl, h2, rfl, rfl⟩ := h
    rw [gp_bytes h2]
  · cases h
set_option maxRecDepth 100000 in
theorem gv_me_67a : lw_tbl[gm_wc.getD 67 0]? = some (.code (gN 67) (gC 67) (gLo 67) (gR 67)) := gp_code (by decide +kernel)
set_option maxRecDepth 100000 in
theorem gv_me_67b : g_gw (.code (gN 67) (gC 67) (gLo 67) (gR 67)) = true := by decide +kernel
set_option maxRecDepth 100000 in
theorem gv_me_67c : (gp_w (gm_wi.getD 67 0) (.initialized (gN 67).cls) && (decide ((gN 67).cls = gOwn 67) && (decide ((gN 67).cls ≠ "java/lang/invoke/MethodHandle" ∧ (gN 67).cls ≠ "java/lang/invoke/VarHandle") && (plainName (gN 67).cls && (gm_hw.getD 67 false || decide (gH 67 = [])))))) = true := by decide +kernel
theorem gv_me_67d : gm_hw.getD 67 false = false := by decide +kernel
theorem gv_me_67 : gp_me 67 = true := by
  have h := gp_w_mk gv_me_67a gv_me_67b
  unfold gp_me
  rw [gv_me_67c, Bool.and_true]
  simp only [gv_me_67d, Bool.false_eq_true, if_false, h, Bool.or_true]
set_option maxRecDepth 100000 in
theorem gv_me_68 : gp_me 68 = true := by decide +kernel
set_option maxRecDepth 100000 in
theorem gv_me_69 : gp_me 69 = true := by decide +kernel
set_option maxRecDepth 100000 in
theorem gv_me_70 : gp_me 70 = true := by decide +kernel
set_option maxRecDepth 100000 in
theorem gv_me_71 : gp_me 71 = true := by decide +kernel
set_option maxRecDepth 100000 in
theorem gv_me_72 : gp_me 72 = true := by decide +kernel
set_option maxRecDepth 100000 in
theorem gv_me_73 : gp_me 73 = true := by decide +kernel
set_option maxRecDepth 100000 in
theorem gv_me_74 : gp_me 74 = true := by decide +kernel
set_option maxRecDepth 100000 in
theorem gv_me_all : ∀ y ∈ ([0, 1, 2, 3, 4, 5, 6, 7, 8, 9, 10, 11, 12, 13, 14, 15, 16, 17, 18, 19, 20, 21, 22, 23, 24, 25, 26, 27, 28, 29, 30, 31, 32, 33, 34, 35, 36, 37, 38, 39, 40, 41, 42, 43, 44, 45, 46, 47, 48, 49, 50, 51, 52, 53, 54, 55, 56, 57, 58, 59, 60, 61, 62, 63, 64, 65, 66, 67, 68, 69, 70, 71, 72, 73, 74] : List Nat), gp_me y = true := List.forall_mem_cons.mpr ⟨gv_me_0, List.forall_mem_cons.mpr ⟨gv_me_1, List.forall_mem_cons.mpr ⟨gv_me_2, List.forall_mem_cons.mpr ⟨gv_me_3, List.forall_mem_cons.mpr ⟨gv_me_4, List.forall_mem_cons.mpr ⟨gv_me_5, List.forall_mem_cons.mpr ⟨gv_me_6, List.forall_mem_cons.mpr ⟨gv_me_7, List.forall_mem_cons.mpr ⟨gv_me_8, List.forall_mem_cons.mpr ⟨gv_me_9, List.forall_mem_cons.mpr ⟨gv_me_10, List.forall_mem_cons.mpr ⟨gv_me_11, List.forall_mem_cons.mpr ⟨gv_me_12, List.forall_mem_cons.mpr ⟨gv_me_13, List.forall_mem_cons.mpr ⟨gv_me_14, List.forall_mem_cons.mpr ⟨gv_me_15, List.forall_mem_cons.mpr ⟨gv_me_16, List.forall_mem_cons.mpr ⟨gv_me_17, List.forall_mem_cons.mpr ⟨gv_me_18, List.forall_mem_cons.mpr ⟨gv_me_19, List.forall_mem_cons.mpr ⟨gv_me_20, List.forall_mem_cons.mpr ⟨gv_me_21, List.forall_mem_cons.mpr ⟨gv_me_22, List.forall_mem_cons.mpr ⟨gv_me_23, List.forall_mem_cons.mpr ⟨gv_me_24, List.forall_mem_cons.mpr ⟨gv_me_25, List.forall_mem_cons.mpr ⟨gv_me_26, List.forall_mem_cons.mpr ⟨gv_me_27, List.forall_mem_cons.mpr ⟨gv_me_28, List.forall_mem_cons.mpr ⟨gv_me_29, List.forall_mem_cons.mpr ⟨gv_me_30, List.forall_mem_cons.mpr ⟨gv_me_31, List.forall_mem_cons.mpr ⟨gv_me_32, List.forall_mem_cons.mpr ⟨gv_me_33, List.forall_mem_cons.mpr ⟨gv_me_34, List.forall_mem_cons.mpr ⟨gv_me_35, List.forall_mem_cons.mpr ⟨gv_me_36, List.forall_mem_cons.mpr ⟨gv_me_37, List.forall_mem_cons.mpr ⟨gv_me_38, List.forall_mem_cons.mpr ⟨gv_me_39, List.forall_mem_cons.mpr ⟨gv_me_40, List.forall_mem_cons.mpr ⟨gv_me_41, List.forall_mem_cons.mpr ⟨gv_me_42, List.forall_mem_cons.mpr ⟨gv_me_43, List.forall_mem_cons.mpr ⟨gv_me_44, List.forall_mem_cons.mpr ⟨gv_me_45, List.forall_mem_cons.mpr ⟨gv_me_46, List.forall_mem_cons.mpr ⟨gv_me_47, List.forall_mem_cons.mpr ⟨gv_me_48, List.forall_mem_cons.mpr ⟨gv_me_49, List.forall_mem_cons.mpr ⟨gv_me_50, List.forall_mem_cons.mpr ⟨gv_me_51, List.forall_mem_cons.mpr ⟨gv_me_52, List.forall_mem_cons.mpr ⟨gv_me_53, List.forall_mem_cons.mpr ⟨gv_me_54, List.forall_mem_cons.mpr ⟨gv_me_55, List.forall_mem_cons.mpr ⟨gv_me_56, List.forall_mem_cons.mpr ⟨gv_me_57, List.forall_mem_cons.mpr ⟨gv_me_58, List.forall_mem_cons.mpr ⟨gv_me_59, List.forall_mem_cons.mpr ⟨gv_me_60, List.forall_mem_cons.mpr ⟨gv_me_61, List.forall_mem_cons.mpr ⟨gv_me_62, List.forall_mem_cons.mpr ⟨gv_me_63, List.forall_mem_cons.mpr ⟨gv_me_64, List.forall_mem_cons.mpr ⟨gv_me_65, List.forall_mem_cons.mpr ⟨gv_me_66, List.forall_mem_cons.mpr ⟨gv_me_67, List.forall_mem_cons.mpr ⟨gv_me_68, List.forall_mem_cons.mpr ⟨gv_me_69, List.forall_mem_cons.mpr ⟨gv_me_70, List.forall_mem_cons.mpr ⟨gv_me_71, List.forall_mem_cons.mpr ⟨gv_me_72, List.forall_mem_cons.mpr ⟨gv_me_73, List.forall_mem_cons.mpr ⟨gv_me_74, fun _ h => absurd h List.not_mem_nil⟩⟩⟩⟩⟩⟩⟩⟩⟩⟩⟩⟩⟩⟩⟩⟩⟩⟩⟩⟩⟩⟩⟩⟩⟩⟩⟩⟩⟩⟩⟩⟩⟩⟩⟩⟩⟩⟩⟩⟩⟩⟩⟩⟩⟩⟩⟩⟩⟩⟩⟩⟩⟩⟩⟩⟩⟩⟩⟩⟩⟩⟩⟩⟩⟩⟩⟩⟩⟩⟩⟩⟩⟩⟩⟩
theorem gv_me {y : Nat} (h : y < gm_CI.length) : gp_me y = true := gv_me_all y (by
  have e : List.range gm_CI.length = ([0, 1, 2, 3, 4, 5, 6, 7, 8, 9, 10, 11, 12, 13, 14, 15, 16, 17, 18, 19, 20, 21, 22, 23, 24, 25, 26, 27, 28, 29, 30, 31, 32, 33, 34, 35, 36, 37, 38, 39, 40, 41, 42, 43, 44, 45, 46, 47, 48, 49, 50, 51, 52, 53, 54, 55, 56, 57, 58, 59, 60, 61, 62, 63, 64, 65, 66, 67, 68, 69, 70, 71, 72, 73, 74] : List Nat) := by decide +kernel
  rw [← e]; exact List.mem_range.mpr h)
