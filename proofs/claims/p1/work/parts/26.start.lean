def s_ε (xs : Nat → Int32) : Nat → Int32 := fun n => if n = 6 then xs 0 &&& 31 else xs n
theorem s_and31 (x : Int32) : 0 ≤ (x &&& 31).toInt ∧ (x &&& 31).toInt ≤ 31 := by
  have h1 : (x &&& 31).toBitVec = x.toBitVec &&& 31#32 := rfl
  have h2 : (x.toBitVec &&& 31#32).toNat ≤ 31 := by
    rw [BitVec.toNat_and]
    exact Nat.le_trans Nat.and_le_right (by decide)
  have h3 : (x &&& 31).toInt = ((x.toBitVec &&& 31#32).toNat : Int) := by
    show (x &&& 31).toBitVec.toInt = _
    rw [h1, BitVec.toInt_eq_toNat_of_lt (by omega)]
  omega
theorem s_I_ok {xs : Nat → Int32} {a b : Int} (h : a ≤ (xs 0 &&& 31).toInt ∧ (xs 0 &&& 31).toInt ≤ b) : s_sat (s_ε xs) (s_I a b) := fun n r hr => by
  have hc : n < 7 := (List.getElem?_eq_some_iff.mp hr).1
  match n, hc, hr with
  | 0, _, hr => cases hr; exact s_full _
  | 1, _, hr => cases hr; exact s_full _
  | 2, _, hr => cases hr; exact s_full _
  | 3, _, hr => cases hr; exact s_full _
  | 4, _, hr => cases hr; exact s_full _
  | 5, _, hr => cases hr; exact s_full _
  | 6, _, hr => cases hr; exact h
theorem s_M0_rd (a : Nat) : s_rd s_M0 a = none := by
  rw [s_rd_def]
  unfold s_M0
  dsimp only
  rw [List.getD_eq_getElem?_getD, List.getD_eq_getElem?_getD, List.getElem?_replicate]
  split
  · rw [Option.getD_some, List.getElem?_replicate]
    split <;> rfl
  · rfl
theorem s_M0_ok (ε : Nat → Int32) : s_M ε s_M0 = (2, fun _ => none) := by
  unfold s_M
  show (2, _) = (2, _)
  congr 1
  funext a
  rw [s_M0_rd]
  rfl
theorem s_done {xs : Nat → Int32} {L : Nat} (hL : L ≤ 6) {mac : sMac} (hmac : s_macok xs (s_ε xs) L mac) {k : Nat} {a b : Int} (hI : a ≤ (xs 0 &&& 31).toInt ∧ (xs 0 &&& 31).toInt ≤ b) (h : s_run mac L k none (s_I a b) g_ylaw 0 [(0, .inl (.ref 0))] [] s_M0 0 0 s_fin = true) : ∃ (k : Nat) (M1 : gM) (c1 d1 : Nat), g_run xs L k g_ylaw 0 [(0, .ref 0)] [] (2, fun _ => none) 0 0 = some (.inl (some (.int 1)), M1, c1, d1) ∧ c1 ≤ 722355 ∧ d1 ≤ 6935171 := by
  obtain ⟨I1, o, a1, a2, a3, a4⟩ := s_run_ok (ε := s_ε xs) hL (fun n hn => by unfold s_ε; rw [if_neg (by omega)]) rfl hmac _ _ _ _ _ _ _ _ _ _ _ h (s_I_ok hI) (fun a _ => s_M0_rd a)
  rw [s_M0_ok] at a4
  unfold s_fin at a1
  split at a1
  · next v m c d =>
    simp only [Bool.and_eq_true, decide_eq_true_eq] at a1
    obtain ⟨rfl, hc, hd⟩ := a1
    obtain ⟨k, hk⟩ := a4
    exact ⟨k, _, _, _, hk, hc, hd⟩
  · cases a1
theorem s_all (xs : Nat → Int32) {L : Nat} (hL : L ≤ 6) : ∃ (k : Nat) (M1 : gM) (c1 d1 : Nat), g_run xs L k g_ylaw 0 [(0, .ref 0)] [] (2, fun _ => none) 0 0 = some (.inl (some (.int 1)), M1, c1, d1) ∧ c1 ≤ 722355 ∧ d1 ≤ 6935171 := by
  have h := s_and31 (xs 0)
  have hm : s_macok xs (s_ε xs) 6 s_mac := s_mac_ok (fun n hn => by unfold s_ε; rw [if_neg (by omega)]) rfl
  rcases Nat.lt_or_ge L 6 with h6 | h6
  · match L, h6 with
    | 0, h6 => exact s_done hL (s_nomac _ _ _) h s_R0
    | 1, h6 => exact s_done hL (s_nomac _ _ _) h s_R1
    | 2, h6 => exact s_done hL (s_nomac _ _ _) h s_R2
    | 3, h6 => exact s_done hL (s_nomac _ _ _) h s_R3
    | 4, h6 => exact s_done hL (s_nomac _ _ _) h s_R4
    | 5, h6 => exact s_done hL (s_nomac _ _ _) h s_R5
  · have e : L = 6 := by omega
    subst e
    by_cases h1 : (xs 0 &&& 31).toInt ≤ 12
    · exact s_done hL hm ⟨h.1, h1⟩ s_R6a
    · by_cases h2 : (xs 0 &&& 31).toInt ≤ 13
      · exact s_done hL hm ⟨by omega, h2⟩ s_R6b
      · by_cases h3 : (xs 0 &&& 31).toInt ≤ 21
        · exact s_done hL hm ⟨by omega, h3⟩ s_R6c
        · by_cases h4 : (xs 0 &&& 31).toInt ≤ 22
          · exact s_done hL hm ⟨by omega, h4⟩ s_R6d
          · exact s_done hL hm ⟨by omega, h.2⟩ s_R6e
/-- from the entry, for every script of at most 6 ints, the law comes to its end with true -/
theorem whole_start {p : Program} {e : Env} {s : State} {m : MethodId} {below : List Frame} {meth : Method} {c : Code} (l : Launch) (hflags : l.flags = flags0) {b L : Nat} {xs : Nat → Int32} (hL : L ≤ 6) (C0 : lw_At p s m meth c b L xs) :
    W p l e room_1 s m #[Value.ref b] below meth c s.heap [] 0 0 (lw_Z below #[Value.ref b] s) (entryFrame m ([Value.ref b] : List Value).toArray 9) := by
  obtain ⟨k, M1, c1, d1, hk, hc, hd⟩ := s_all xs hL
  exact g_start l hflags C0 hk hc hd (by decide +kernel) (by decide +kernel)
