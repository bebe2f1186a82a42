/-! THE PURE RUN AS A RELATION: g_R (it comes to that end), g_G (from A it goes to B) -/
theorem g_run_mono {xs : Nat → Int32} {L : Nat} : ∀ (k y pc : Nat) (lv : gL) (st : List Value) (M : gM) (c d : Nat) (o : gOut), g_run xs L k y pc lv st M c d = some o → g_run xs L (k + 1) y pc lv st M c d = some o
  | 0, _, _, _, _, _, _, _, _, h => by cases h
  | k + 1, y, pc, lv, st, M, c, d, o, h => by
    have ih := g_run_mono (xs := xs) (L := L) k
    unfold g_run at h
    unfold g_run
    cases hT : gThr y pc with
    | some v => rw [hT] at h; exact h
    | none =>
      rw [hT] at h
      dsimp only at h ⊢
      cases hI : gI y pc with
      | none => rw [hI] at h; cases h
      | some iv =>
        obtain ⟨i, n⟩ := iv
        rw [hI] at h
        dsimp only at h ⊢
        cases hr : g_ret y i st with
        | some r => rw [hr] at h; exact h
        | none =>
          rw [hr] at h
          dsimp only at h ⊢
          cases hc : g_cal y i st lv M with
          | some zv =>
            obtain ⟨z, as, rest, nn⟩ := zv
            rw [hc] at h
            dsimp only at h ⊢
            cases hz : g_run xs L k z 0 (lv_args 0 as) [] M 0 0 with
            | none => rw [hz] at h; cases h
            | some oo =>
              obtain ⟨r2, M1, c1, d1⟩ := oo
              rw [hz] at h
              rw [ih _ _ _ _ _ _ _ _ hz]
              cases r2 with
              | inl v => exact ih _ _ _ _ _ _ _ _ h
              | inr E =>
                dsimp only at h ⊢
                cases hf : g_find y pc E (gH y) with
                | none => rw [hf] at h; cases h
                | some w =>
                  rw [hf] at h
                  cases w with
                  | none => exact h
                  | some hh => exact ih _ _ _ _ _ _ _ _ h
          | none =>
            rw [hc] at h
            dsimp only at h ⊢
            cases hs : g_stp xs L y i pc lv st M c d with
            | none => rw [hs] at h; cases h
            | some q =>
              rw [hs] at h
              dsimp only at h ⊢
              split at h
              · next hm => rw [if_pos hm]; exact ih _ _ _ _ _ _ _ _ h
              · cases h
theorem g_run_le {xs : Nat → Int32} {L k y pc : Nat} {lv : gL} {st : List Value} {M : gM} {c d : Nat} {o : gOut} (h : g_run xs L k y pc lv st M c d = some o) : ∀ {k' : Nat}, k ≤ k' → g_run xs L k' y pc lv st M c d = some o := by
  intro k' hk
  induction hk with
  | refl => exact h
  | step _ ih => exact g_run_mono _ _ _ _ _ _ _ _ _ ih
def g_R (xs : Nat → Int32) (L y pc : Nat) (lv : gL) (st : List Value) (M : gM) (c d : Nat) (o : gOut) : Prop := ∃ k, g_run xs L k y pc lv st M c d = some o
theorem g_R_thr {xs : Nat → Int32} {L y pc : Nat} {lv : gL} {st : List Value} {M : gM} {c d : Nat} {v : String × Nat × Nat × Nat × String × Bool} (hT : gThr y pc = some v) (hc : (st.map fun v => v.category).sum ≤ 8 ∧ 6 ≤ gF y ∧ 98 ≤ gW y ∧ gH y = []) : g_R xs L y pc lv st M c d (.inr v.1, M, c + 1, d + 6) :=
  ⟨1, by unfold g_run; rw [hT]; dsimp only; rw [if_pos hc]⟩
theorem g_R_ret {xs : Nat → Int32} {L y pc n : Nat} {i : Instr} {lv : gL} {st : List Value} {M : gM} {c d : Nat} {r : Option Value} (hT : gThr y pc = none) (hI : gI y pc = some (i, n)) (hr : g_ret y i st = some r) : g_R xs L y pc lv st M c d (.inl r, M, c, d) :=
  ⟨1, by unfold g_run; rw [hT]; dsimp only; rw [hI]; dsimp only; rw [hr]⟩
theorem g_R_stp {xs : Nat → Int32} {L y pc n : Nat} {i : Instr} {lv : gL} {st : List Value} {M : gM} {c d : Nat} {q : gCf} {o : gOut} (hT : gThr y pc = none) (hI : gI y pc = some (i, n)) (hr : g_ret y i st = none) (hc : g_cal y i st lv M = none) (hs : g_stp xs L y i pc lv st M c d = some q) (hm : M.1 ≤ q.2.2.2.1.1 ∧ c ≤ q.2.2.2.2.1 ∧ d ≤ q.2.2.2.2.2) (h : g_R xs L y q.1 q.2.1 q.2.2.1 q.2.2.2.1 q.2.2.2.2.1 q.2.2.2.2.2 o) : g_R xs L y pc lv st M c d o := by
  obtain ⟨k, h⟩ := h
  exact ⟨k + 1, by unfold g_run; rw [hT]; dsimp only; rw [hI]; dsimp only; rw [hr]; dsimp only; rw [hc]; dsimp only; rw [hs]; dsimp only; rw [if_pos hm]; exact h⟩
theorem g_R_cal {xs : Nat → Int32} {L y pc n : Nat} {i : Instr} {lv : gL} {st : List Value} {M : gM} {c d : Nat} {o : gOut} {z nn : Nat} {as rest : List Value} {r : Option Value} {M1 : gM} {c1 d1 : Nat} (hT : gThr y pc = none) (hI : gI y pc = some (i, n)) (hr : g_ret y i st = none) (hc : g_cal y i st lv M = some (z, as, rest, nn)) (hz : g_R xs L z 0 (lv_args 0 as) [] M 0 0 (.inl r, M1, c1, d1)) (h : g_R xs L y (pc + nn) lv (r.toList ++ rest) M1 (c + c1) (d + d1) o) : g_R xs L y pc lv st M c d o := by
  obtain ⟨k1, hz⟩ := hz
  obtain ⟨k2, h⟩ := h
  refine ⟨max k1 k2 + 1, ?_⟩
  unfold g_run; rw [hT]; dsimp only; rw [hI]; dsimp only; rw [hr]; dsimp only; rw [hc]; dsimp only
  rw [g_run_le hz (Nat.le_max_left k1 k2)]
  exact g_run_le h (Nat.le_max_right k1 k2)
theorem g_R_calX {xs : Nat → Int32} {L y pc n : Nat} {i : Instr} {lv : gL} {st : List Value} {M : gM} {c d : Nat} {o : gOut} {z nn : Nat} {as rest : List Value} {E : String} {M1 : gM} {c1 d1 hh : Nat} (hT : gThr y pc = none) (hI : gI y pc = some (i, n)) (hr : g_ret y i st = none) (hc : g_cal y i st lv M = some (z, as, rest, nn)) (hz : g_R xs L z 0 (lv_args 0 as) [] M 0 0 (.inr E, M1, c1, d1)) (hf : g_find y pc E (gH y) = some (some hh)) (h : g_R xs L y hh lv [.ref M1.1] (M1.1 + 1, va_up M1.2 M1.1 none) (c + c1) (d + d1) o) : g_R xs L y pc lv st M c d o := by
  obtain ⟨k1, hz⟩ := hz
  obtain ⟨k2, h⟩ := h
  refine ⟨max k1 k2 + 1, ?_⟩
  unfold g_run; rw [hT]; dsimp only; rw [hI]; dsimp only; rw [hr]; dsimp only; rw [hc]; dsimp only
  rw [g_run_le hz (Nat.le_max_left k1 k2)]
  dsimp only
  rw [hf]
  exact g_run_le h (Nat.le_max_right k1 k2)
theorem g_R_calO {xs : Nat → Int32} {L y pc n : Nat} {i : Instr} {lv : gL} {st : List Value} {M : gM} {c d : Nat} {z nn : Nat} {as rest : List Value} {E : String} {M1 : gM} {c1 d1 : Nat} (hT : gThr y pc = none) (hI : gI y pc = some (i, n)) (hr : g_ret y i st = none) (hc : g_cal y i st lv M = some (z, as, rest, nn)) (hz : g_R xs L z 0 (lv_args 0 as) [] M 0 0 (.inr E, M1, c1, d1)) (hf : g_find y pc E (gH y) = some none) : g_R xs L y pc lv st M c d (.inr E, M1, c + c1, d + d1) := by
  obtain ⟨k1, hz⟩ := hz
  refine ⟨k1 + 1, ?_⟩
  unfold g_run; rw [hT]; dsimp only; rw [hI]; dsimp only; rw [hr]; dsimp only; rw [hc]; dsimp only
  rw [hz]
  dsimp only
  rw [hf]
/-! THE SYMBOLIC RUN: values are known, or 'symbol n + k'; cells in a list, by relative addresses; what is known of symbols: from .. to .. -/
abbrev sV : Type := Value ⊕ (Nat × Int32)
abbrev sL : Type := List (Nat × sV)
abbrev sE : Type := (Nat × List sV) ⊕ (Nat × (List sV ⊕ List Int64 ⊕ List (Option Nat)))
abbrev sM : Type := Nat × List (List (Option sE))
abbrev sI : Type := List (Int × Int)
def s_v (ε : Nat → Int32) (v : sV) : Value := match v with
  | .inl w => w
  | .inr q => .int (ε q.1 + q.2)
def s_i (ε : Nat → Int32) (v : sV) : Int32 := match v with
  | .inl (.int x) => x
  | .inr q => ε q.1 + q.2
  | _ => 0
def s_e (ε : Nat → Int32) (e : sE) : gE := match e with
  | .inl o => .inl (o.1, o.2.map (s_v ε))
  | .inr (t, .inl l) => .inr (t, l.length, .inl (fun i => s_i ε (l.getD i (.inl (.int 0)))))
  | .inr (t, .inr (.inl l)) => .inr (t, l.length, .inr (.inl (fun i => l.getD i 0)))
  | .inr (t, .inr (.inr l)) => .inr (t, l.length, .inr (.inr (fun i => l.getD i none)))
noncomputable def s_rd (m : sM) (a : Nat) : Option sE := s_nth none (s_nth [] m.2 (a / 16)) (a % 16)
theorem s_rd_def (m : sM) (a : Nat) : s_rd m a = (m.2.getD (a / 16) []).getD (a % 16) none := by unfold s_rd; rw [s_nth_eq, s_nth_eq]
noncomputable def s_M (ε : Nat → Int32) (m : sM) : gM := (m.1, fun a => (s_rd m a).map (s_e ε))
/-- nothing lies behind the last cell -/
def s_wf (m : sM) : Prop := ∀ a, m.1 ≤ a → s_rd m a = none
noncomputable def s_wr (m : sM) (a : Nat) (e : Option sE) : sM := (m.1, s_ls (s_ls e (s_nth [] m.2 (a / 16)) (a % 16)) m.2 (a / 16))
theorem s_wr_def (m : sM) (a : Nat) (e : Option sE) : s_wr m a e = (m.1, m.2.set (a / 16) ((m.2.getD (a / 16) []).set (a % 16) e)) := by unfold s_wr; rw [s_ls_eq, s_ls_eq, s_nth_eq]
noncomputable def s_nw (m : sM) (e : Option sE) : sM := (m.1 + 1, (s_wr m m.1 e).2)
noncomputable def s_can (m : sM) : Bool := Nat.blt (m.1 % 16) (s_len (s_nth [] m.2 (m.1 / 16)))
theorem s_can_i {m : sM} (h : s_can m = true) : m.1 % 16 < (m.2.getD (m.1 / 16) []).length := by
  unfold s_can at h
  rw [s_len_eq, s_nth_eq] at h
  exact Nat.le_of_ble_eq_true h
def s_S (ε : Nat → Int32) (st : List sV) : List Value := st.map (s_v ε)
def s_Lv (ε : Nat → Int32) (lv : sL) : gL := lv.map (fun q => (q.1, s_v ε q.2))
def s_sat (ε : Nat → Int32) (I : sI) : Prop := ∀ (n : Nat) (r : Int × Int), I[n]? = some r → r.1 ≤ (ε n).toInt ∧ (ε n).toInt ≤ r.2
def s_ok (n : Nat) (v : sV) : Bool := match v with
  | .inl w => g_ok n w
  | .inr _ => true
def s_cat (v : sV) : Nat := match v with
  | .inl w => w.category
  | .inr _ => 1
def s_args : Nat → List sV → sL
  | _, [] => []
  | i, v :: vs => (i, v) :: s_args (if s_cat v = 2 then i + 2 else i + 1) vs
noncomputable def s_rs (I : sI) (v : sV) : sV := match v with
  | .inl w => .inl w
  | .inr q => match s_nq I q.1 with
    | some r => if r.1 = r.2 then .inl (.int (Int32.ofInt r.1 + q.2)) else .inr q
    | none => .inr q
noncomputable def s_cut3 (I : sI) (n : Nat) (c : Int) : List sI := match s_nq I n with
  | none => [I]
  | some r => (([(r.1, min r.2 (c - 1)), (max r.1 c, min r.2 c), (max r.1 (c + 1), r.2)] : List (Int × Int)).filter (fun q => decide (q.1 ≤ q.2))).map (fun q => I.set n q)
noncomputable def s_pts (I : sI) (n : Nat) (a : Int) (len : Nat) : List sI := match s_nq I n with
  | none => [I]
  | some r => (((r.1, min r.2 (a - 1)) :: (max r.1 (a + (len : Int)), r.2) :: (List.range len).map (fun (j : Nat) => ((a + (j : Int), a + (j : Int)) : Int × Int))).filter (fun q => decide (r.1 ≤ q.1 ∧ q.2 ≤ r.2 ∧ q.1 ≤ q.2))).map (fun q => I.set n q)
noncomputable def s_sp (I : sI) (i : Instr) (st : List sV) (m : sM) : List sI := match i with
  | .ifCond _ _ => match st with
    | .inr q :: _ => s_cut3 I q.1 0
    | _ => [I]
  | .if_icmp _ _ => match st with
    | .inl (.int c) :: .inr q :: _ => s_cut3 I q.1 c.toInt
    | .inr q :: .inl (.int c) :: _ => s_cut3 I q.1 c.toInt
    | _ => [I]
  | .tableswitch _ lo _ offs => match st with
    | .inr q :: _ => s_pts I q.1 lo offs.size
    | _ => [I]
  | .iaload => match st with
    | .inr q :: .inl (.ref a) :: _ => match s_rd m a with
      | some (.inr (_, .inl l)) => s_pts I q.1 0 l.length
      | _ => [I]
    | _ => [I]
  | _ => [I]
theorem s_sat_set {ε : Nat → Int32} {I : sI} (h : s_sat ε I) {n : Nat} {q : Int × Int} (hq : q.1 ≤ (ε n).toInt ∧ (ε n).toInt ≤ q.2) : s_sat ε (I.set n q) := fun m r hr => by
  rw [List.getElem?_set] at hr
  split at hr
  · next hm =>
    subst hm
    split at hr
    · cases hr; exact hq
    · cases hr
  · exact h m r hr
theorem s_cut3_ok {ε : Nat → Int32} {I : sI} (h : s_sat ε I) (n : Nat) (c : Int) : ∃ I' ∈ s_cut3 I n c, s_sat ε I' := by
  unfold s_cut3
  rw [s_nq_eq]
  cases hI : I[n]? with
  | none => exact ⟨I, List.mem_singleton.mpr rfl, h⟩
  | some r =>
    dsimp only
    obtain ⟨h1, h2⟩ := h n r hI
    have key : ∀ q : Int × Int, q ∈ ([(r.1, min r.2 (c - 1)), (max r.1 c, min r.2 c), (max r.1 (c + 1), r.2)] : List (Int × Int)) → q.1 ≤ (ε n).toInt ∧ (ε n).toInt ≤ q.2 → ∃ I' ∈ (([(r.1, min r.2 (c - 1)), (max r.1 c, min r.2 c), (max r.1 (c + 1), r.2)] : List (Int × Int)).filter (fun q => decide (q.1 ≤ q.2))).map (fun q => I.set n q), s_sat ε I' := fun q hq hb =>
      ⟨I.set n q, List.mem_map.mpr ⟨q, List.mem_filter.mpr ⟨hq, decide_eq_true (Int.le_trans hb.1 hb.2)⟩, rfl⟩, s_sat_set h hb⟩
    rcases Int.lt_trichotomy (ε n).toInt c with hc | hc | hc
    · exact key _ (List.mem_cons_self) ⟨h1, by dsimp only; omega⟩
    · exact key _ (List.mem_cons_of_mem _ List.mem_cons_self) ⟨by dsimp only; omega, by dsimp only; omega⟩
    · exact key _ (List.mem_cons_of_mem _ (List.mem_cons_of_mem _ List.mem_cons_self)) ⟨by dsimp only; omega, h2⟩
theorem s_pts_ok {ε : Nat → Int32} {I : sI} (h : s_sat ε I) (n : Nat) (a : Int) (len : Nat) : ∃ I' ∈ s_pts I n a len, s_sat ε I' := by
  unfold s_pts
  rw [s_nq_eq]
  cases hI : I[n]? with
  | none => exact ⟨I, List.mem_singleton.mpr rfl, h⟩
  | some r =>
    dsimp only
    obtain ⟨h1, h2⟩ := h n r hI
    have key : ∀ q : Int × Int, q ∈ (((r.1, min r.2 (a - 1)) :: (max r.1 (a + (len : Int)), r.2) :: (List.range len).map (fun (j : Nat) => ((a + (j : Int), a + (j : Int)) : Int × Int)))) → (r.1 ≤ q.1 ∧ q.2 ≤ r.2) → q.1 ≤ (ε n).toInt ∧ (ε n).toInt ≤ q.2 → ∃ I' ∈ (((r.1, min r.2 (a - 1)) :: (max r.1 (a + (len : Int)), r.2) :: (List.range len).map (fun (j : Nat) => ((a + (j : Int), a + (j : Int)) : Int × Int))).filter (fun q => decide (r.1 ≤ q.1 ∧ q.2 ≤ r.2 ∧ q.1 ≤ q.2))).map (fun q => I.set n q), s_sat ε I' := fun q hq hr hb =>
      ⟨I.set n q, List.mem_map.mpr ⟨q, List.mem_filter.mpr ⟨hq, decide_eq_true ⟨hr.1, hr.2, Int.le_trans hb.1 hb.2⟩⟩, rfl⟩, s_sat_set h hb⟩
    by_cases hc : (ε n).toInt < a
    · exact key _ (List.mem_cons_self) ⟨Int.le_refl _, by dsimp only; omega⟩ ⟨h1, by dsimp only; omega⟩
    · by_cases hc2 : a + (len : Int) ≤ (ε n).toInt
      · exact key _ (List.mem_cons_of_mem _ List.mem_cons_self) ⟨by dsimp only; omega, Int.le_refl _⟩ ⟨by dsimp only; omega, h2⟩
      · have hj : a + ((((ε n).toInt - a).toNat : Nat) : Int) = (ε n).toInt := by omega
        refine key (a + ((((ε n).toInt - a).toNat : Nat) : Int), a + ((((ε n).toInt - a).toNat : Nat) : Int)) (List.mem_cons_of_mem _ (List.mem_cons_of_mem _ (List.mem_map.mpr ⟨((ε n).toInt - a).toNat, List.mem_range.mpr (by omega), rfl⟩))) ?_ ?_
        · rw [hj]; exact ⟨h1, h2⟩
        · rw [hj]; exact ⟨Int.le_refl _, Int.le_refl _⟩
theorem s_sp_ok {ε : Nat → Int32} {I : sI} (h : s_sat ε I) (i : Instr) (st : List sV) (m : sM) : ∃ I' ∈ s_sp I i st m, s_sat ε I' := by
  have h0 : ∃ I' ∈ [I], s_sat ε I' := ⟨I, List.mem_singleton.mpr rfl, h⟩
  unfold s_sp
  split
  · split
    · exact s_cut3_ok h _ _
    · exact h0
  · split
    · exact s_cut3_ok h _ _
    · exact s_cut3_ok h _ _
    · exact h0
  · split
    · exact s_pts_ok h _ _ _
    · exact h0
  · split
    · split
      · exact s_pts_ok h _ _ _
      · exact h0
    · exact h0
  · exact h0
theorem s_rs_ok {ε : Nat → Int32} {I : sI} (h : s_sat ε I) (v : sV) : s_v ε (s_rs I v) = s_v ε v := by
  unfold s_rs
  simp only [s_nq_eq]
  split
  · rfl
  · next q =>
    split
    · next r hr =>
      split
      · next he =>
        obtain ⟨h1, h2⟩ := h _ _ hr
        have h3 : (ε q.1).toInt = r.1 := by omega
        show Value.int (Int32.ofInt r.1 + q.2) = Value.int (ε q.1 + q.2)
        rw [← h3, Int32.ofInt_toInt]
      · rfl
    · rfl
noncomputable def s_cmp (I : sI) (n : Nat) (c : Int) : Option Ordering := match s_nq I n with
  | some r => if r.2 < c then some .lt else if c < r.1 then some .gt else if r.1 = c ∧ r.2 = c then some .eq else none
  | none => none
def s_o (cd : Jvm.ClassFile.Cond) (o : Ordering) : Bool := match cd with
  | .eq => decide (o = .eq)
  | .ne => !decide (o = .eq)
  | .lt => decide (o = .lt)
  | .ge => !decide (o = .lt)
  | .gt => decide (o = .gt)
  | .le => !decide (o = .gt)
def s_sw (o : Ordering) : Ordering := match o with
  | .lt => .gt
  | .eq => .eq
  | .gt => .lt
theorem s_cmp_i {ε : Nat → Int32} {I : sI} (h : s_sat ε I) {n : Nat} {c : Int} {o : Ordering} (ho : s_cmp I n c = some o) : (o = .lt ∧ (ε n).toInt < c) ∨ (o = .eq ∧ (ε n).toInt = c) ∨ (o = .gt ∧ c < (ε n).toInt) := by
  unfold s_cmp at ho
  rw [s_nq_eq] at ho
  split at ho
  · next r hr =>
    obtain ⟨h1, h2⟩ := h _ _ hr
    split at ho
    · cases ho; exact Or.inl ⟨rfl, by omega⟩
    · split at ho
      · cases ho; exact Or.inr (Or.inr ⟨rfl, by omega⟩)
      · split at ho
        · next hh => cases ho; exact Or.inr (Or.inl ⟨rfl, by omega⟩)
        · cases ho
  · cases ho
theorem s_c2_ok (cd : Jvm.ClassFile.Cond) {x1 x2 : Int32} {o : Ordering} (h : (o = .lt ∧ x1.toInt < x2.toInt) ∨ (o = .eq ∧ x1.toInt = x2.toInt) ∨ (o = .gt ∧ x2.toInt < x1.toInt)) : g_c2 cd x1 x2 = s_o cd o := by
  rcases h with ⟨rfl, h⟩ | ⟨rfl, h⟩ | ⟨rfl, h⟩
  · have hne : ¬ x1 = x2 := fun e => by rw [e] at h; omega
    have h1 : x1 < x2 := Int32.lt_iff_toInt_lt.mpr h
    have h2 : x1 ≤ x2 := Int32.le_iff_toInt_le.mpr (by omega)
    have h3 : ¬ x2 ≤ x1 := fun e => by have := Int32.le_iff_toInt_le.mp e; omega
    have h4 : ¬ x2 < x1 := fun e => by have := Int32.lt_iff_toInt_lt.mp e; omega
    cases cd <;> simp [g_c2, s_o, hne, h1, h2, h3, h4]
  · have he : x1 = x2 := Int32.toInt_inj.mp h
    subst he
    have h1 : ¬ x1 < x1 := fun e => by have := Int32.lt_iff_toInt_lt.mp e; omega
    have h2 : x1 ≤ x1 := Int32.le_iff_toInt_le.mpr (by omega)
    cases cd <;> simp [g_c2, s_o, h1, h2]
  · have hne : ¬ x1 = x2 := fun e => by rw [e] at h; omega
    have h1 : x2 < x1 := Int32.lt_iff_toInt_lt.mpr h
    have h2 : x2 ≤ x1 := Int32.le_iff_toInt_le.mpr (by omega)
    have h3 : ¬ x1 ≤ x2 := fun e => by have := Int32.le_iff_toInt_le.mp e; omega
    have h4 : ¬ x1 < x2 := fun e => by have := Int32.lt_iff_toInt_lt.mp e; omega
    cases cd <;> simp [g_c2, s_o, hne, h1, h2, h3, h4]
theorem s_c1_c2 (cd : Jvm.ClassFile.Cond) (x : Int32) : g_c1 cd x = g_c2 cd x 0 := by cases cd <;> rfl
theorem s_ok_ok (ε : Nat → Int32) (n : Nat) (v : sV) : g_ok n (s_v ε v) = s_ok n v := by
  rcases v with w | q <;> rfl
theorem s_cat_ok (ε : Nat → Int32) (v : sV) : (s_v ε v).category = s_cat v := by
  rcases v with w | q <;> rfl
theorem s_all_ok (ε : Nat → Int32) (n : Nat) (st : List sV) : (s_S ε st).all (g_ok n) = st.all (s_ok n) := by
  unfold s_S
  rw [List.all_map]
  congr 1
  funext v
  exact s_ok_ok ε n v
theorem s_allL_ok (ε : Nat → Int32) (n : Nat) (lv : sL) : (s_Lv ε lv).all (fun q => g_ok n q.2) = lv.all (fun q => s_ok n q.2) := by
  unfold s_Lv
  rw [List.all_map]
  congr 1
  funext v
  exact s_ok_ok ε n v.2
theorem s_cats_ok (ε : Nat → Int32) (st : List sV) : ((s_S ε st).map fun v => v.category) = st.map s_cat := by
  unfold s_S
  rw [List.map_map]
  exact List.map_congr_left fun v _ => s_cat_ok ε v
theorem s_args_ok (ε : Nat → Int32) : ∀ (l : List sV) (i : Nat), lv_args i (s_S ε l) = s_Lv ε (s_args i l)
  | [], _ => rfl
  | v :: l, i => by
    have ih := s_args_ok ε l
    simp only [s_S] at ih
    simp only [s_S, List.map_cons, lv_args, s_args, s_Lv, s_cat_ok]
    rw [ih]
    rfl
theorem s_look_ok (ε : Nat → Int32) : ∀ (lv : sL) (i : Nat), (s_Lv ε lv).lookup i = (lv.lookup i).map (s_v ε)
  | [], _ => rfl
  | (a, b) :: lv, i => by
    have ih := s_look_ok ε lv i
    simp only [s_Lv] at ih
    simp only [s_Lv, List.map_cons, List.lookup_cons]
    cases hk : (i == a) with
    | true => rfl
    | false => exact ih
theorem s_rd_ok {ε : Nat → Int32} {m : sM} (hm : s_wf m) (a : Nat) : g_rd (s_M ε m) a = (s_rd m a).map (s_e ε) := by
  unfold g_rd s_M
  dsimp only
  split
  · rfl
  · next h =>
    rw [hm a (Nat.not_lt.mp h)]
    rfl
theorem s_wr_rd {m : sM} {a : Nat} (h : a % 16 < (m.2.getD (a / 16) []).length) (e : Option sE) (j : Nat) : s_rd (s_wr m a e) j = if j = a then e else s_rd m j := by
  have hlt : a / 16 < m.2.length := by
    rcases Nat.lt_or_ge (a / 16) m.2.length with h1 | h1
    · exact h1
    · rw [g_getD_ge h1] at h
      exact absurd h (Nat.not_lt_zero _)
  rw [s_rd_def, s_wr_def, s_rd_def]
  dsimp only
  by_cases hj : j = a
  · subst hj
    rw [if_pos rfl]
    simp only [List.getD_eq_getElem?_getD, List.getElem?_set] at h ⊢
    rw [List.getElem?_eq_getElem hlt] at h
    simp only [Option.getD_some] at h
    simp [hlt, h]
  · rw [if_neg hj]
    by_cases h1 : j / 16 = a / 16
    · have h2 : j % 16 ≠ a % 16 := fun h2 => hj (by omega)
      rw [h1]
      simp only [List.getD_eq_getElem?_getD, List.getElem?_set]
      simp [hlt, Ne.symm h2]
    · simp only [List.getD_eq_getElem?_getD, List.getElem?_set]
      rw [if_neg (fun q => h1 q.symm)]
theorem s_in {m : sM} {a : Nat} (ha : (s_rd m a).isSome = true) : a % 16 < (m.2.getD (a / 16) []).length := by
  rcases Nat.lt_or_ge (a % 16) (m.2.getD (a / 16) []).length with h | h
  · exact h
  · rw [s_rd_def, g_getD_ge h] at ha
    cases ha
theorem s_set_ok {ε : Nat → Int32} {m : sM} (hm : s_wf m) {a : Nat} {e : sE} (ha : (s_rd m a).isSome = true) : ((s_M ε m).1, va_up (s_M ε m).2 a (some (s_e ε e))) = s_M ε (s_wr m a (some e)) := by
  have h := s_in ha
  unfold s_M
  show (m.1, _) = (m.1, _)
  congr 1
  funext j
  rw [s_wr_rd h]
  unfold va_up
  by_cases hj : j = a
  · rw [if_pos hj, if_pos hj]; rfl
  · rw [if_neg hj, if_neg hj]
theorem s_set_wf {m : sM} (hm : s_wf m) {a : Nat} (ha : (s_rd m a).isSome = true) (e : Option sE) : s_wf (s_wr m a e) := fun j hj => by
  rw [s_wr_rd (s_in ha)]
  have hj' : m.1 ≤ j := hj
  by_cases h : j = a
  · subst h
    rw [hm j hj'] at ha
    cases ha
  · rw [if_neg h]
    exact hm j hj'
theorem s_new_ok {ε : Nat → Int32} {m : sM} (hm : s_wf m) (hc : s_can m = true) (e : Option sE) : ((s_M ε m).1 + 1, va_up (s_M ε m).2 (s_M ε m).1 (e.map (s_e ε))) = s_M ε (s_nw m e) := by
  have h := s_can_i hc
  unfold s_M
  show (m.1 + 1, _) = (m.1 + 1, _)
  congr 1
  funext j
  have e1 : s_rd (s_nw m e) j = s_rd (s_wr m m.1 e) j := rfl
  rw [e1, s_wr_rd h]
  unfold va_up
  by_cases hj : j = m.1
  · rw [if_pos hj, if_pos hj]
  · rw [if_neg hj, if_neg hj]
theorem s_new_wf {m : sM} (hm : s_wf m) (hc : s_can m = true) (e : Option sE) : s_wf (s_nw m e) := fun j hj => by
  have hj' : m.1 + 1 ≤ j := hj
  have e1 : s_rd (s_nw m e) j = s_rd (s_wr m m.1 e) j := rfl
  rw [e1, s_wr_rd (s_can_i hc), if_neg (by omega)]
  exact hm j (by omega)
theorem s_dark_ok {ε : Nat → Int32} {m : sM} (hm : s_wf m) : ((s_M ε m).1 + 1, va_up (s_M ε m).2 (s_M ε m).1 none) = s_M ε (m.1 + 1, m.2) := by
  unfold s_M
  show (m.1 + 1, _) = (m.1 + 1, _)
  congr 1
  funext j
  unfold va_up
  by_cases hj : j = m.1
  · have e1 : s_rd (m.1 + 1, m.2) j = s_rd m j := rfl
    rw [if_pos hj, e1, hm j (by omega)]
    rfl
  · rw [if_neg hj]
    rfl
theorem s_dark_wf {m : sM} (hm : s_wf m) : s_wf (m.1 + 1, m.2) := fun j hj => hm j (Nat.le_of_succ_le hj)
theorem s_upd_ok {α β : Type} (g : α → β) (z : α) {l : List α} {k : Nat} (hk : k < l.length) (v : α) : (fun j => if j = k then g v else g (l.getD j z)) = fun j => g ((l.set k v).getD j z) := by
  funext j
  simp only [List.getD_eq_getElem?_getD, List.getElem?_set]
  by_cases hj : j = k
  · subst hj
    rw [if_pos rfl, if_pos rfl, if_pos hk]
    rfl
  · rw [if_neg hj, if_neg (fun h => hj h.symm)]
theorem s_repl {α : Type} (n : Nat) (z : α) (j : Nat) : (List.replicate n z).getD j z = z := by
  rw [List.getD_eq_getElem?_getD, List.getElem?_replicate]
  split <;> rfl
def s_cpy {α : Type} (z : α) (l g : List α) (sp dp n : Nat) : List α := (List.range g.length).map (fun k => if dp ≤ k ∧ k < dp + n then l.getD (sp + (k - dp)) z else g.getD k z)
theorem s_cpy_ok {α β : Type} (h : α → β) (z : α) {l g : List α} {sp dp n : Nat} (hd : dp + n ≤ g.length) : va_cpy (fun i => h (l.getD i z)) (fun i => h (g.getD i z)) sp dp n = fun i => h ((s_cpy z l g sp dp n).getD i z) := by
  funext k
  unfold va_cpy s_cpy
  simp only [List.getD_eq_getElem?_getD, List.getElem?_map]
  by_cases hk : k < g.length
  · rw [List.getElem?_range hk]
    simp only [Option.map_some, Option.getD_some]
    split <;> rfl
  · rw [List.getElem?_eq_none (l := List.range g.length) (by simp; omega), if_neg (by omega), List.getElem?_eq_none (by omega)]
    rfl
/-! ints by their numbers -/
def s_n (x : Int32) : Nat := x.toBitVec.toNat
def s_ltb (a b : Nat) : Bool := bif Nat.ble 2147483648 a then (bif Nat.ble 2147483648 b then Nat.blt a b else true) else (bif Nat.ble 2147483648 b then false else Nat.blt a b)
theorem s_n_lt (x : Int32) : s_n x < 4294967296 := x.toBitVec.isLt
theorem s_n_int (x : Int32) : x.toInt = if s_n x < 2147483648 then (s_n x : Int) else (s_n x : Int) - 4294967296 := by
  have h1 : x.toInt = x.toBitVec.toInt := rfl
  rw [h1, BitVec.toInt_eq_toNat_cond]
  have h2 : (2 * x.toBitVec.toNat < 2 ^ 32) ↔ s_n x < 2147483648 := by unfold s_n; omega
  by_cases h : s_n x < 2147483648
  · rw [if_pos (h2.mpr h), if_pos h]; rfl
  · rw [if_neg (fun q => h (h2.mp q)), if_neg h]; rfl
theorem s_ble_f {a b : Nat} (h : Nat.ble a b = false) : b < a := by
  rcases Nat.lt_or_ge b a with h1 | h1
  · exact h1
  · rw [Nat.ble_eq_true_of_le h1] at h; cases h
theorem s_ltb_eq (x y : Int32) : s_ltb (s_n x) (s_n y) = decide (x < y) := by
  have hx := s_n_int x
  have hy := s_n_int y
  have key : (s_ltb (s_n x) (s_n y) = true) ↔ x < y := by
    rw [Int32.lt_iff_toInt_lt, hx, hy]
    unfold s_ltb Nat.blt
    have lx := s_n_lt x
    have ly := s_n_lt y
    cases h1 : Nat.ble 2147483648 (s_n x) with
    | true =>
      have h1 := Nat.le_of_ble_eq_true h1
      rw [if_neg (by omega)]
      cases h2 : Nat.ble 2147483648 (s_n y) with
      | true =>
        have h2 := Nat.le_of_ble_eq_true h2
        rw [if_neg (by omega)]
        exact ⟨fun h => by have := Nat.le_of_ble_eq_true h; omega, fun h => Nat.ble_eq_true_of_le (by omega)⟩
      | false =>
        have h2 := s_ble_f h2
        rw [if_pos h2]
        exact ⟨fun _ => by omega, fun _ => rfl⟩
    | false =>
      have h1 := s_ble_f h1
      rw [if_pos h1]
      cases h2 : Nat.ble 2147483648 (s_n y) with
      | true =>
        have h2 := Nat.le_of_ble_eq_true h2
        rw [if_neg (by omega)]
        exact ⟨fun h => (by cases h), fun h => (by omega)⟩
      | false =>
        have h2 := s_ble_f h2
        rw [if_pos h2]
        exact ⟨fun h => by have := Nat.le_of_ble_eq_true h; omega, fun h => Nat.ble_eq_true_of_le (by omega)⟩
  by_cases h : x < y
  · rw [key.mpr h, decide_eq_true h]
  · rw [decide_eq_false h]
    cases h2 : s_ltb (s_n x) (s_n y) with
    | false => rfl
    | true => exact absurd (key.mp h2) h
theorem s_n_inj {x y : Int32} (h : s_n x = s_n y) : x = y := by
  apply Int32.toInt_inj.mp
  rw [s_n_int, s_n_int, h]
def s_c2b (cd : Jvm.ClassFile.Cond) (x1 x2 : Int32) : Bool := match cd with
  | .eq => Nat.beq (s_n x1) (s_n x2)
  | .ne => !(Nat.beq (s_n x1) (s_n x2))
  | .lt => s_ltb (s_n x1) (s_n x2)
  | .ge => !(s_ltb (s_n x1) (s_n x2))
  | .gt => s_ltb (s_n x2) (s_n x1)
  | .le => !(s_ltb (s_n x2) (s_n x1))
theorem s_beq32 (x1 x2 : Int32) : Nat.beq (s_n x1) (s_n x2) = decide (x1 = x2) := by
  by_cases h : x1 = x2
  · subst h
    rw [decide_eq_true rfl]
    exact Nat.beq_refl _
  · rw [decide_eq_false h]
    cases h2 : Nat.beq (s_n x1) (s_n x2) with
    | false => rfl
    | true => exact absurd (s_n_inj (Nat.eq_of_beq_eq_true h2)) h
theorem s_c2b_eq (cd : Jvm.ClassFile.Cond) (x1 x2 : Int32) : s_c2b cd x1 x2 = g_c2 cd x1 x2 := by
  have hle : ∀ a b : Int32, (!(decide (a < b))) = decide (b ≤ a) := fun a b => by
    by_cases h : a < b
    · rw [decide_eq_true h, decide_eq_false (Int32.not_le.mpr h)]; rfl
    · rw [decide_eq_false h, decide_eq_true (Int32.not_lt.mp h)]; rfl
  cases cd <;> simp only [s_c2b, g_c2, s_ltb_eq, s_beq32, hle, decide_not]
def s_c1b (cd : Jvm.ClassFile.Cond) (x : Int32) : Bool := s_c2b cd x 0
theorem s_c1b_eq (cd : Jvm.ClassFile.Cond) (x : Int32) : s_c1b cd x = g_c1 cd x := by rw [s_c1_c2]; exact s_c2b_eq cd x 0
def s_nc (x : Int32) : Nat := bif Nat.ble 2147483648 (s_n x) then 0 else s_n x
theorem s_nc_eq (x : Int32) : s_nc x = x.toNatClampNeg := by
  have h : x.toNatClampNeg = x.toInt.toNat := rfl
  have hl := s_n_lt x
  rw [h, s_n_int]
  unfold s_nc
  cases h1 : Nat.ble 2147483648 (s_n x) with
  | true =>
    have h1 := Nat.le_of_ble_eq_true h1
    rw [if_neg (by omega)]
    show 0 = _
    omega
  | false =>
    have h1 := s_ble_f h1
    rw [if_pos h1]
    show s_n x = _
    omega
def s_ixb (i : Int32) (n : Nat) : Bool := bif Nat.ble 2147483648 (s_n i) then false else Nat.blt (s_n i) n
theorem s_ixb_eq (i : Int32) (n : Nat) : s_ixb i n = g_ix i n := by
  unfold s_ixb g_ix
  rw [← s_nc_eq]
  unfold s_nc
  have hi : decide (i < 0) = Nat.ble 2147483648 (s_n i) := by
    have hl := s_n_lt i
    have h0 : (0 : Int32).toInt = 0 := by decide
    cases h1 : Nat.ble 2147483648 (s_n i) with
    | true =>
      have h1 := Nat.le_of_ble_eq_true h1
      exact decide_eq_true (Int32.lt_iff_toInt_lt.mpr (by rw [s_n_int i, if_neg (by omega), h0]; omega))
    | false =>
      have h1 := s_ble_f h1
      exact decide_eq_false (fun q => by have := Int32.lt_iff_toInt_lt.mp q; rw [s_n_int i, if_pos h1, h0] at this; omega)
  rw [hi]
  cases h1 : Nat.ble 2147483648 (s_n i) with
  | true => rfl
  | false =>
    show Nat.blt (s_n i) n = !(false || decide (n ≤ s_n i))
    unfold Nat.blt
    by_cases h2 : n ≤ s_n i
    · rw [decide_eq_true h2]
      cases h3 : Nat.ble (s_n i).succ n with
      | false => rfl
      | true => exact absurd (Nat.le_of_ble_eq_true h3) (by omega)
    · rw [decide_eq_false h2, Nat.ble_eq_true_of_le (by omega)]
      rfl
