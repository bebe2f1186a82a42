/-! list functions that the kernel takes in few steps -/
noncomputable def s_nth {α : Type} (d : α) (l : List α) : Nat → α := List.rec (motive := fun _ => Nat → α) (fun _ => d) (fun a _ ih n => bif Nat.beq n 0 then a else ih (Nat.pred n)) l
theorem s_nth_eq {α : Type} (d : α) : ∀ (l : List α) (n : Nat), s_nth d l n = l.getD n d
  | [], _ => rfl
  | _ :: _, 0 => rfl
  | _ :: l, n + 1 => s_nth_eq d l n
noncomputable def s_nq {α : Type} (l : List α) : Nat → Option α := List.rec (motive := fun _ => Nat → Option α) (fun _ => none) (fun a _ ih n => bif Nat.beq n 0 then some a else ih (Nat.pred n)) l
theorem s_nq_eq {α : Type} : ∀ (l : List α) (n : Nat), s_nq l n = l[n]?
  | [], _ => rfl
  | _ :: _, 0 => rfl
  | _ :: l, n + 1 => s_nq_eq l n
noncomputable def s_ls {α : Type} (v : α) (l : List α) : Nat → List α := List.rec (motive := fun _ => Nat → List α) (fun _ => []) (fun a as ih n => bif Nat.beq n 0 then v :: as else a :: ih (Nat.pred n)) l
theorem s_ls_eq {α : Type} (v : α) : ∀ (l : List α) (n : Nat), s_ls v l n = l.set n v
  | [], _ => rfl
  | _ :: _, 0 => rfl
  | a :: l, n + 1 => congrArg (a :: ·) (s_ls_eq v l n)
noncomputable def s_lk {β : Type} (l : List (Nat × β)) (k : Nat) : Option β := List.rec (motive := fun _ => Option β) none (fun a _ ih => bif Nat.beq k a.1 then some a.2 else ih) l
theorem s_lk_eq {β : Type} : ∀ (l : List (Nat × β)) (k : Nat), s_lk l k = l.lookup k
  | [], _ => rfl
  | (a, b) :: l, k => by
    have ih := s_lk_eq l k
    rw [List.lookup_cons]
    show (bif Nat.beq k a then some b else s_lk l k) = _
    rw [ih]
    cases h : Nat.beq k a with
    | true =>
      have e : (k == a) = true := beq_iff_eq.mpr (Nat.eq_of_beq_eq_true h)
      rw [e]; rfl
    | false =>
      have e : (k == a) = false := beq_eq_false_iff_ne.mpr (Nat.ne_of_beq_eq_false h)
      rw [e]; rfl
noncomputable def s_al {α : Type} (l : List α) (p : α → Bool) : Bool := List.rec (motive := fun _ => Bool) true (fun a _ ih => bif p a then ih else false) l
theorem s_al_eq {α : Type} : ∀ (l : List α) (p : α → Bool), s_al l p = l.all p
  | [], _ => rfl
  | a :: l, p => by
    have ih := s_al_eq l p
    rw [List.all_cons]
    show (bif p a then s_al l p else false) = _
    rw [ih]
    cases p a <;> rfl
noncomputable def s_len {α : Type} (l : List α) : Nat := List.rec (motive := fun _ => Nat) 0 (fun _ _ ih => ih + 1) l
theorem s_len_eq {α : Type} : ∀ (l : List α), s_len l = l.length
  | [] => rfl
  | _ :: l => congrArg (· + 1) (s_len_eq l)

def s_d1 : DecidableEq (String × Bool) := inferInstance
def s_d2 : DecidableEq (Nat × String × Bool) := @instDecidableEqProd _ _ inferInstance s_d1
def s_d3 : DecidableEq (Nat × Nat × String × Bool) := @instDecidableEqProd _ _ inferInstance s_d2
def s_d4 : DecidableEq (Nat × Nat × Nat × String × Bool) := @instDecidableEqProd _ _ inferInstance s_d3
def s_d5 : DecidableEq (String × Nat × Nat × Nat × String × Bool) := @instDecidableEqProd _ _ inferInstance s_d4
def s_d6 : DecidableEq (Nat × String × Nat × Nat × Nat × String × Bool) := @instDecidableEqProd _ _ inferInstance s_d5
def s_loL : List (List (Nat)) := [[2, 1, 2, 2, 1, 2, 1, 1, 1, 1, 1, 4, 5],
  [3, 2, 1, 3, 4, 4, 2, 4, 1, 4, 2, 4, 1],
  [5, 6, 5, 2, 4, 2, 2, 2, 3, 9, 8, 2, 2],
  [3, 2, 2, 2, 2, 1, 1, 10, 3, 4, 3, 6, 6],
  [6, 2, 2, 4, 5, 5, 2, 2, 5, 5, 4, 4, 3],
  [1, 4, 5, 1, 4, 2, 2, 3, 4, 4, 2, 1, 3],
  [4, 3, 3, 1, 1, 2, 3, 4, 1, 2, 5, 5, 4],
  [2, 4, 4, 4, 2, 5, 5, 4, 7, 2, 2, 4, 4],
  [6, 4, 4, 5, 7, 8, 3, 4, 4, 5, 5, 3, 4],
  [5, 3, 2, 5, 6, 4, 5, 5, 3, 3, 2, 4, 4],
  [2, 3, 1, 4, 2, 2, 3, 3, 2, 3, 2, 4, 7],
  [5, 3, 2, 2, 4, 2, 3, 4, 4, 2, 2, 6, 4],
  [5, 4, 7, 7, 2, 9, 5, 2, 8, 9]]
noncomputable def s_lo (y : Nat) : Nat := s_nth 0 (s_nth [] s_loL (y / 13)) (y % 13)
set_option maxRecDepth 100000 in
theorem s_lo_v : (List.range 169).all (fun y => decide (s_lo y = gLo y)) = true := by decide +kernel
def s_KL : List (List (Nat)) := [[0, 1, 2, 3, 4, 5, 6, 7, 8, 9, 10, 5, 11],
  [10, 10, 8, 12, 12, 13, 13, 8, 8, 8, 8, 10, 10],
  [5, 11, 10, 5, 11, 10, 3, 3, 2, 5, 11, 10, 10],
  [14, 15, 8, 8, 16, 8, 16, 10, 5, 11, 10, 5, 11],
  [10, 5, 5, 5, 5, 11, 10, 10, 10, 10, 5, 11, 10],
  [0, 5, 11, 9, 10, 2, 3, 5, 11, 9, 10, 5, 5],
  [11, 10, 2, 3, 3, 5, 11, 9, 9, 10, 5, 11, 10],
  [0, 3, 0, 3, 0, 3, 3, 3, 3, 3, 3, 5, 11],
  [9, 9, 9, 9, 9, 9, 9, 10, 5, 11, 10, 10, 5],
  [11, 10, 2, 5, 11, 10, 5, 11, 10, 3, 5, 11, 10],
  [10, 5, 8, 10, 0, 1, 2, 3, 3, 5, 5, 11, 9],
  [10, 10, 10, 5, 11, 10, 5, 11, 10, 10, 5, 5, 5],
  [5, 11, 10, 10, 10, 5, 5, 10, 10, 11]]
noncomputable def s_K (y : Nat) : Nat := s_nth 0 (s_nth [] s_KL (y / 13)) (y % 13)
set_option maxRecDepth 100000 in
theorem s_K_v : (List.range 169).all (fun y => decide (s_K y = gK y)) = true := by decide +kernel
def s_FL : List (List (Nat)) := [[1, 1, 2, 3, 1, 4, 1, 2, 3, 4, 5, 6, 7],
  [0, 0, 0, 0, 1, 1, 2, 3, 4, 5, 6, 7, 0],
  [6, 7, 7, 6, 7, 7, 6, 6, 0, 7, 8, 1, 1],
  [0, 1, 0, 2, 1, 2, 0, 7, 6, 7, 1, 7, 8],
  [3, 6, 6, 1, 7, 8, 1, 3, 3, 4, 7, 8, 4],
  [0, 7, 8, 0, 4, 0, 7, 8, 9, 3, 4, 6, 7],
  [8, 0, 0, 7, 0, 8, 9, 3, 0, 4, 7, 8, 3],
  [1, 2, 0, 1, 0, 2, 7, 0, 2, 8, 9, 10, 11],
  [3, 4, 3, 5, 6, 5, 7, 8, 7, 8, 3, 4, 7],
  [8, 3, 6, 7, 8, 3, 7, 8, 4, 0, 8, 9, 4],
  [5, 0, 0, 3, 0, 0, 1, 2, 0, 10, 11, 12, 7],
  [8, 9, 10, 11, 12, 9, 10, 11, 8, 9, 0, 1, 2],
  [6, 7, 3, 4, 5, 8, 11, 0, 10, 13]]
noncomputable def s_F (y : Nat) : Nat := s_nth 0 (s_nth [] s_FL (y / 13)) (y % 13)
set_option maxRecDepth 100000 in
theorem s_F_v : (List.range 169).all (fun y => decide (s_F y = gF y)) = true := by decide +kernel
def s_WL : List (List (Nat)) := [[21, 21, 41, 62, 21, 83, 21, 41, 61, 81, 101, 98, 121],
  [0, 0, 0, 0, 22, 26, 49, 70, 93, 113, 136, 157, 0],
  [98, 122, 157, 98, 119, 157, 98, 98, 0, 119, 147, 22, 22],
  [0, 22, 0, 43, 21, 42, 0, 157, 98, 120, 22, 119, 144],
  [64, 98, 98, 21, 119, 143, 22, 64, 64, 88, 119, 142, 88],
  [0, 119, 142, 0, 85, 0, 119, 140, 162, 64, 87, 98, 118],
  [140, 0, 0, 119, 0, 139, 160, 64, 0, 87, 119, 143, 64],
  [20, 41, 0, 23, 0, 46, 119, 0, 46, 140, 161, 182, 205],
  [64, 89, 64, 112, 136, 112, 162, 184, 119, 142, 64, 88, 119],
  [142, 64, 98, 119, 143, 64, 119, 143, 89, 0, 139, 160, 87],
  [110, 0, 0, 62, 0, 0, 21, 43, 0, 182, 204, 225, 157],
  [184, 208, 230, 204, 225, 208, 182, 204, 184, 207, 0, 21, 46],
  [98, 122, 64, 90, 116, 143, 204, 0, 230, 257]]
noncomputable def s_W (y : Nat) : Nat := s_nth 0 (s_nth [] s_WL (y / 13)) (y % 13)
set_option maxRecDepth 100000 in
theorem s_W_v : (List.range 169).all (fun y => decide (s_W y = gW y)) = true := by decide +kernel
def s_hwL : List (List (Bool)) := [[false, false, false, false, false, false, false, false, false, false, false, false, true],
  [false, false, false, false, false, false, false, false, false, false, false, false, false],
  [false, true, false, false, true, false, false, false, false, false, true, false, false],
  [false, false, false, false, false, false, false, false, false, true, false, false, true],
  [false, false, false, false, false, true, false, false, false, false, false, true, false],
  [false, false, true, false, false, false, false, false, true, false, false, false, false],
  [true, false, false, false, false, false, true, false, false, false, false, true, false],
  [false, false, false, false, false, false, false, false, false, false, false, false, true],
  [false, false, false, false, false, false, false, false, false, true, false, false, false],
  [true, false, false, false, true, false, false, true, false, false, false, true, false],
  [false, false, false, false, false, false, false, false, false, false, false, true, false],
  [false, false, false, false, true, false, false, true, false, false, false, false, false],
  [false, true, false, false, false, false, false, false, false, false]]
noncomputable def s_hw (y : Nat) : Bool := s_nth false (s_nth [] s_hwL (y / 13)) (y % 13)
set_option maxRecDepth 100000 in
theorem s_hw_v : (List.range 169).all (fun y => decide (s_hw y = gm_hw.getD y false)) = true := by decide +kernel
def s_RL : List (List (Option FieldType)) := [[none, none, none, none, none, none, none, none, none, none, none, some (.int), some (.int)],
  [some (.boolean), some (.int), some (.int), some (.int), some (.int), some (.array (.object "java/lang/Object")), some (.array (.object "java/lang/Object")), some (.array (.object "java/lang/Object")), some (.array (.object "java/lang/Object")), none, some (.boolean), some (.int), some (.int)],
  [some (.int), some (.int), some (.int), some (.int), some (.int), some (.int), some (.object "FlyTower$Cue"), some (.object "FlyTower$Bar"), some (.boolean), some (.int), some (.int), some (.boolean), some (.boolean)],
  [some (.int), some (.int), some (.object "java/lang/Object"), some (.object "java/lang/Object"), none, some (.object "java/util/Iterator"), some (.boolean), some (.int), some (.int), some (.int), some (.int), some (.boolean), some (.int)],
  [some (.boolean), some (.object "FlyTower$Piece"), none, none, some (.int), some (.int), some (.boolean), some (.boolean), none, some (.int), some (.int), some (.int), some (.int)],
  [some (.int), some (.int), some (.int), some (.int), some (.int), none, none, some (.int), some (.int), none, some (.int), none, some (.boolean)],
  [some (.int), some (.boolean), some (.int), some (.int), none, some (.int), some (.int), some (.int), none, some (.int), some (.boolean), some (.int), some (.boolean)],
  [some (.int), some (.boolean), some (.boolean), some (.boolean), none, none, none, none, none, none, none, some (.int), some (.int)],
  [some (.boolean), some (.boolean), none, some (.int), some (.int), none, some (.int), some (.int), some (.int), some (.int), some (.int), some (.int), some (.int)],
  [some (.int), some (.int), some (.object "FlyTower$Move"), some (.int), some (.int), some (.int), some (.boolean), some (.int), some (.boolean), some (.int), some (.int), some (.int), some (.int)],
  [some (.int), some (.double), some (.boolean), some (.double), none, none, none, none, none, some (.int), some (.int), some (.int), some (.object "FlyTowerModel$Tower")],
  [some (.object "FlyTowerModel$Tower"), some (.int), some (.int), some (.int), some (.int), some (.int), some (.int), some (.int), some (.int), some (.int), some (.boolean), some (.boolean), some (.int)],
  [some (.int), some (.int), some (.boolean), some (.int), some (.int), some (.long), some (.long), none, some (.long), some (.boolean)]]
noncomputable def s_R (y : Nat) : Option FieldType := s_nth none (s_nth [] s_RL (y / 13)) (y % 13)
set_option maxRecDepth 100000 in
theorem s_R_v : (List.range 169).all (fun y => decide (s_R y = gR y)) = true := by decide +kernel
def s_tTL : List (List (List (Nat × String × Nat × Nat × Nat × String × Bool))) := [[[], [], [], [], [], [], [], [], [], [], [], [(13, "java/lang/IllegalArgumentException", 30, 32, 34, "a LIMIT is 10 to 300", false), (35, "java/lang/IllegalStateException", 41, 43, 45, "there are 8 BARS", false)], []],
  [[], [], [], [], [], [], [], [], [], [], [], [], []],
  [[(11, "java/lang/IllegalArgumentException", 30, 62, 34, "a WEIGHT is 1 to 90", false), (31, "java/lang/IllegalArgumentException", 30, 64, 34, "a DROP is 0 to 60", false), (50, "java/lang/IllegalArgumentException", 30, 66, 34, "a THICKNESS is 0 to 2", false), (69, "java/lang/IllegalStateException", 41, 71, 45, "there are 10 PIECES", false)], [], [], [(11, "java/lang/IllegalArgumentException", 30, 82, 34, "a CUE is 0 to 5, or NONE", false), (33, "java/lang/IllegalStateException", 41, 87, 45, "there are 6 CUES", false)], [], [], [(12, "java/lang/IndexOutOfBoundsException", 84, 91, 88, "no such CUE", false)], [(12, "java/lang/IndexOutOfBoundsException", 84, 86, 88, "no such BAR", false)], [], [(30, "java/lang/IllegalArgumentException", 30, 106, 34, "a TARGET is 0 to 120", false), (53, "java/lang/IllegalArgumentException", 30, 108, 34, "a SPEED is 1 to 6", false), (75, "java/lang/IllegalArgumentException", 30, 110, 34, "a DELAY is 0 to 20", false), (96, "java/lang/IllegalStateException", 41, 115, 45, "that CUE RUNS", false), (116, "java/lang/IllegalStateException", 41, 120, 45, "that CUE has 6 MOVES", false), (139, "java/lang/IllegalStateException", 41, 126, 45, "that CUE has a MOVE of that BAR", false)], [], [], []],
  [[], [], [], [], [], [], [], [], [(9, "java/lang/IllegalArgumentException", 30, 146, 34, "a CREW is 0 to 5", false)], [], [], [], []],
  [[], [(12, "java/lang/IndexOutOfBoundsException", 329, 331, 333, "no such PIECE", true)], [(11, "java/lang/IllegalStateException", 41, 189, 45, "a CUE RUNS", false), (28, "java/lang/IllegalStateException", 41, 336, 45, "HEIGHT is above 0", true)], [], [(24, "java/lang/IllegalStateException", 41, 162, 45, "that PIECE is not in the STORE", false), (58, "java/lang/IllegalStateException", 41, 171, 45, "LOAD would be above LIMIT", false)], [], [], [], [], [], [(14, "java/lang/IllegalStateException", 41, 176, 45, "that PIECE is in the STORE", false)], [], []],
  [[], [(20, "java/lang/IllegalArgumentException", 30, 178, 34, "a COUNTER is 0 to 300", false), (37, "java/lang/IllegalStateException", 41, 180, 45, "that BAR has a MOTOR", false)], [], [], [], [], [], [(20, "java/lang/IllegalStateException", 41, 189, 45, "a CUE RUNS", false)], [], [], [], [(11, "java/lang/IllegalStateException", 41, 334, 45, "no CUE RUNS", true)], []],
  [[], [], [], [], [], [], [], [], [], [], [], [], []],
  [[], [], [], [], [], [], [], [], [], [], [], [(11, "java/lang/IllegalArgumentException", 30, 210, 34, "seconds are 1 to 120", false), (36, "java/lang/IllegalStateException", 41, 215, 45, "NOW would be above 3000", false)], []],
  [[], [], [], [], [], [], [], [], [(164, "java/lang/IllegalArgumentException", 30, 235, 34, "what is 0 to 11", false)], [], [], [], [(56, "java/lang/IllegalArgumentException", 30, 237, 34, "what is 0 to 3", false)]],
  [[], [], [(12, "java/lang/IndexOutOfBoundsException", 29, 31, 33, "no such MOVE", false)], [(88, "java/lang/IllegalArgumentException", 30, 249, 34, "what is 0 to 5", false)], [], [], [], [], [], [], [(213, "java/lang/IllegalArgumentException", 30, 277, 34, "what is 0 to 15", true)], [], []],
  [[], [], [], [], [], [], [], [], [], [], [], [], []],
  [[], [], [], [], [], [], [(11, "java/lang/IllegalArgumentException", 30, 286, 34, "seconds are 1 to 60", true)], [], [], [], [], [], []],
  [[(9, "java/lang/IllegalArgumentException", 30, 292, 34, "a bit is no PIECE", true)], [], [], [], [], [], [], [], [], []]]
noncomputable def s_tT (y : Nat) : List (Nat × String × Nat × Nat × Nat × String × Bool) := s_nth [] (s_nth [] s_tTL (y / 13)) (y % 13)
set_option maxRecDepth 100000 in
theorem s_tT_v : (List.range 169).all (fun y => @decide (s_tT y = gm_T.getD y []) (@instDecidableEqList _ s_d6 (s_tT y) (gm_T.getD y []))) = true := by decide +kernel
set_option maxRecDepth 100000 in
theorem s_lo_eq (y : Nat) : s_lo y = gLo y := by
  rcases Nat.lt_or_ge y 169 with h | h
  · exact of_decide_eq_true (List.all_eq_true.mp s_lo_v y (List.mem_range.mpr h))
  · unfold s_lo gLo
    rw [s_nth_eq, s_nth_eq, g_getD_ge (L := s_loL) (Nat.le_trans (show s_loL.length ≤ 13 by decide +kernel) (show 13 ≤ y / 13 by omega)), g_getD_ge (Nat.le_trans (show gm_L.length ≤ 169 by decide +kernel) h)]
    rfl
set_option maxRecDepth 100000 in
theorem s_F_eq (y : Nat) : s_F y = gF y := by
  rcases Nat.lt_or_ge y 169 with h | h
  · exact of_decide_eq_true (List.all_eq_true.mp s_F_v y (List.mem_range.mpr h))
  · unfold s_F gF
    rw [s_nth_eq, s_nth_eq, g_getD_ge (L := s_FL) (Nat.le_trans (show s_FL.length ≤ 13 by decide +kernel) (show 13 ≤ y / 13 by omega)), g_getD_ge (Nat.le_trans (show gm_F.length ≤ 169 by decide +kernel) h)]
    rfl
set_option maxRecDepth 100000 in
theorem s_W_eq (y : Nat) : s_W y = gW y := by
  rcases Nat.lt_or_ge y 169 with h | h
  · exact of_decide_eq_true (List.all_eq_true.mp s_W_v y (List.mem_range.mpr h))
  · unfold s_W gW
    rw [s_nth_eq, s_nth_eq, g_getD_ge (L := s_WL) (Nat.le_trans (show s_WL.length ≤ 13 by decide +kernel) (show 13 ≤ y / 13 by omega)), g_getD_ge (Nat.le_trans (show gm_W.length ≤ 169 by decide +kernel) h)]
    rfl
set_option maxRecDepth 100000 in
theorem s_hw_eq (y : Nat) : s_hw y = gm_hw.getD y false := by
  rcases Nat.lt_or_ge y 169 with h | h
  · exact of_decide_eq_true (List.all_eq_true.mp s_hw_v y (List.mem_range.mpr h))
  · unfold s_hw
    rw [s_nth_eq, s_nth_eq, g_getD_ge (L := s_hwL) (Nat.le_trans (show s_hwL.length ≤ 13 by decide +kernel) (show 13 ≤ y / 13 by omega)), g_getD_ge (Nat.le_trans (show gm_hw.length ≤ 169 by decide +kernel) h)]
    rfl
set_option maxRecDepth 100000 in
theorem s_R_eq (y : Nat) : s_R y = gR y := by
  rcases Nat.lt_or_ge y 169 with h | h
  · exact of_decide_eq_true (List.all_eq_true.mp s_R_v y (List.mem_range.mpr h))
  · unfold s_R gR
    rw [s_nth_eq, s_nth_eq, g_getD_ge (L := s_RL) (Nat.le_trans (show s_RL.length ≤ 13 by decide +kernel) (show 13 ≤ y / 13 by omega)), g_getD_ge (Nat.le_trans (show gm_R.length ≤ 169 by decide +kernel) h)]
    rfl
set_option maxRecDepth 100000 in
theorem s_K_eq (y : Nat) : s_K y = gK y := by
  rcases Nat.lt_or_ge y 169 with h | h
  · exact of_decide_eq_true (List.all_eq_true.mp s_K_v y (List.mem_range.mpr h))
  · unfold s_K gK
    rw [s_nth_eq, s_nth_eq, g_getD_ge (L := s_KL) (Nat.le_trans (show s_KL.length ≤ 13 by decide +kernel) (show 13 ≤ y / 13 by omega)), g_getD_ge (Nat.le_trans (show gm_K.length ≤ 169 by decide +kernel) h)]
    rfl
set_option maxRecDepth 100000 in
theorem s_tT_eq (y : Nat) : s_tT y = gm_T.getD y [] := by
  rcases Nat.lt_or_ge y 169 with h | h
  · exact @of_decide_eq_true _ (@instDecidableEqList _ s_d6 (s_tT y) (gm_T.getD y [])) (List.all_eq_true.mp s_tT_v y (List.mem_range.mpr h))
  · unfold s_tT
    rw [s_nth_eq, s_nth_eq, g_getD_ge (L := s_tTL) (Nat.le_trans (show s_tTL.length ≤ 13 by decide +kernel) (show 13 ≤ y / 13 by omega)), g_getD_ge (Nat.le_trans (show gm_T.length ≤ 169 by decide +kernel) h)]
    rfl
noncomputable def s_thr (y pc : Nat) : Option (String × Nat × Nat × Nat × String × Bool) := s_lk (s_tT y) pc
theorem s_thr_eq (y pc : Nat) : s_thr y pc = gThr y pc := by unfold s_thr gThr; rw [s_lk_eq, s_tT_eq]
noncomputable def s_fld (y ix : Nat) : Option (Nat × Nat × Nat × Option String × String) := s_lk (s_nth [] gc_fl (s_K y)) ix
theorem s_fld_eq (y ix : Nat) : s_fld y ix = gFld y ix := by unfold s_fld gFld; rw [s_lk_eq, s_nth_eq, s_K_eq]
noncomputable def s_iv (y ix : Nat) : Option (Nat × Nat × Nat × Nat × Nat × Nat × Nat × Nat × Option String) := s_lk (s_nth [] gc_iv (s_K y)) ix
theorem s_iv_eq (y ix : Nat) : s_iv y ix = gIv y ix := by unfold s_iv gIv; rw [s_lk_eq, s_nth_eq, s_K_eq]
