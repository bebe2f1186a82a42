/-! THE PURE RUN AS A RELATION: g_R: it comes to that end -/
theorem g_run_mono {xs : Nat → Int32} {L : Nat} : ∀ (k y pc : Nat) (lv : gL) (st : List Value) (M : gM) (c d : Nat) (o : gOut), g_run xs L k y pc lv st M c d = some o → g_run xs L (k + 1) y pc lv st M c d = some o
  | 0, _, _, _, _, _, _, _, _, h => by cases h
  | k + 1, y, pc, lv, st, M, c, d, o, h => by
    have ih := g_run_mono (xs := xs) (L := L) k
    unfold g_run at h
    unfold g_run
    cases hT : gThr y pc with
    | some v => rw [hT] at h; exact h
    | none =>
      rw [hT] at h
      dsimp only at h ⊢
      cases hI : gI y pc with
      | none => rw [hI] at h; cases h
      | some iv =>
        obtain ⟨i, n⟩ := iv
        rw [hI] at h
        dsimp only at h ⊢
        cases hr : g_ret y i st with
        | some r => rw [hr] at h; exact h
        | none =>
          rw [hr] at h
          dsimp only at h ⊢
          cases hc : g_inv y i st lv M with
          | some zv =>
            obtain ⟨z, as, rest⟩ := zv
            rw [hc] at h
            dsimp only at h ⊢
            cases hz : g_run xs L k z 0 (lv_args 0 as) [] M 0 0 with
            | none => rw [hz] at h; cases h
            | some oo =>
              obtain ⟨r2, M1, c1, d1⟩ := oo
              rw [hz] at h
              rw [ih _ _ _ _ _ _ _ _ hz]
              cases r2 with
              | inl v => exact ih _ _ _ _ _ _ _ _ h
              | inr E =>
                dsimp only at h ⊢
                cases hf : g_find y pc E (gH y) with
                | none => rw [hf] at h; cases h
                | some w =>
                  rw [hf] at h
                  cases w with
                  | none => exact h
                  | some hh => exact ih _ _ _ _ _ _ _ _ h
          | none =>
            rw [hc] at h
            dsimp only at h ⊢
            cases hs : g_stp xs L y i pc lv st M c d with
            | none => rw [hs] at h; cases h
            | some q =>
              rw [hs] at h
              dsimp only at h ⊢
              split at h
              · next hm => rw [if_pos hm]; exact ih _ _ _ _ _ _ _ _ h
              · cases h
theorem g_run_le {xs : Nat → Int32} {L k y pc : Nat} {lv : gL} {st : List Value} {M : gM} {c d : Nat} {o : gOut} (h : g_run xs L k y pc lv st M c d = some o) : ∀ {k' : Nat}, k ≤ k' → g_run xs L k' y pc lv st M c d = some o := by
  intro k' hk
  induction hk with
  | refl => exact h
  | step _ ih => exact g_run_mono _ _ _ _ _ _ _ _ _ ih
def g_R (xs : Nat → Int32) (L y pc : Nat) (lv : gL) (st : List Value) (M : gM) (c d : Nat) (o : gOut) : Prop := ∃ k, g_run xs L k y pc lv st M c d = some o
theorem g_R_thr {xs : Nat → Int32} {L y pc : Nat} {lv : gL} {st : List Value} {M : gM} {c d : Nat} {v : String × Nat × Nat × Nat × String × Bool} (hT : gThr y pc = some v) (hc : (st.map fun v => v.category).sum ≤ 8 ∧ 6 ≤ gF y ∧ 98 ≤ gW y ∧ gH y = []) : g_R xs L y pc lv st M c d (.inr v.1, M, c + 1, d + 6) :=
  ⟨1, by unfold g_run; rw [hT]; dsimp only; rw [if_pos hc]⟩
theorem g_R_ret {xs : Nat → Int32} {L y pc n : Nat} {i : Instr} {lv : gL} {st : List Value} {M : gM} {c d : Nat} {r : Option Value} (hT : gThr y pc = none) (hI : gI y pc = some (i, n)) (hr : g_ret y i st = some r) : g_R xs L y pc lv st M c d (.inl r, M, c, d) :=
  ⟨1, by unfold g_run; rw [hT]; dsimp only; rw [hI]; dsimp only; rw [hr]⟩
theorem g_R_stp {xs : Nat → Int32} {L y pc n : Nat} {i : Instr} {lv : gL} {st : List Value} {M : gM} {c d : Nat} {q : gCf} {o : gOut} (hT : gThr y pc = none) (hI : gI y pc = some (i, n)) (hr : g_ret y i st = none) (hc : g_inv y i st lv M = none) (hs : g_stp xs L y i pc lv st M c d = some q) (hm : M.1 ≤ q.2.2.2.1.1 ∧ c ≤ q.2.2.2.2.1 ∧ d ≤ q.2.2.2.2.2) (h : g_R xs L y q.1 q.2.1 q.2.2.1 q.2.2.2.1 q.2.2.2.2.1 q.2.2.2.2.2 o) : g_R xs L y pc lv st M c d o := by
  obtain ⟨k, h⟩ := h
  exact ⟨k + 1, by unfold g_run; rw [hT]; dsimp only; rw [hI]; dsimp only; rw [hr]; dsimp only; rw [hc]; dsimp only; rw [hs]; dsimp only; rw [if_pos hm]; exact h⟩
theorem g_R_cal {xs : Nat → Int32} {L y pc n : Nat} {i : Instr} {lv : gL} {st : List Value} {M : gM} {c d : Nat} {o : gOut} {z : Nat} {as rest : List Value} {r : Option Value} {M1 : gM} {c1 d1 : Nat} (hT : gThr y pc = none) (hI : gI y pc = some (i, n)) (hr : g_ret y i st = none) (hc : g_inv y i st lv M = some (z, as, rest)) (hz : g_R xs L z 0 (lv_args 0 as) [] M 0 0 (.inl r, M1, c1, d1)) (h : g_R xs L y (pc + 3) lv (r.toList ++ rest) M1 (c + c1) (d + d1) o) : g_R xs L y pc lv st M c d o := by
  obtain ⟨k1, hz⟩ := hz
  obtain ⟨k2, h⟩ := h
  refine ⟨max k1 k2 + 1, ?_⟩
  unfold g_run; rw [hT]; dsimp only; rw [hI]; dsimp only; rw [hr]; dsimp only; rw [hc]; dsimp only
  rw [g_run_le hz (Nat.le_max_left k1 k2)]
  exact g_run_le h (Nat.le_max_right k1 k2)
theorem g_R_calX {xs : Nat → Int32} {L y pc n : Nat} {i : Instr} {lv : gL} {st : List Value} {M : gM} {c d : Nat} {o : gOut} {z : Nat} {as rest : List Value} {E : String} {M1 : gM} {c1 d1 hh : Nat} (hT : gThr y pc = none) (hI : gI y pc = some (i, n)) (hr : g_ret y i st = none) (hc : g_inv y i st lv M = some (z, as, rest)) (hz : g_R xs L z 0 (lv_args 0 as) [] M 0 0 (.inr E, M1, c1, d1)) (hf : g_find y pc E (gH y) = some (some hh)) (h : g_R xs L y hh lv [.ref M1.1] (M1.1 + 1, va_up M1.2 M1.1 none) (c + c1) (d + d1) o) : g_R xs L y pc lv st M c d o := by
  obtain ⟨k1, hz⟩ := hz
  obtain ⟨k2, h⟩ := h
  refine ⟨max k1 k2 + 1, ?_⟩
  unfold g_run; rw [hT]; dsimp only; rw [hI]; dsimp only; rw [hr]; dsimp only; rw [hc]; dsimp only
  rw [g_run_le hz (Nat.le_max_left k1 k2)]
  dsimp only
  rw [hf]
  exact g_run_le h (Nat.le_max_right k1 k2)
theorem g_R_calO {xs : Nat → Int32} {L y pc n : Nat} {i : Instr} {lv : gL} {st : List Value} {M : gM} {c d : Nat} {z : Nat} {as rest : List Value} {E : String} {M1 : gM} {c1 d1 : Nat} (hT : gThr y pc = none) (hI : gI y pc = some (i, n)) (hr : g_ret y i st = none) (hc : g_inv y i st lv M = some (z, as, rest)) (hz : g_R xs L z 0 (lv_args 0 as) [] M 0 0 (.inr E, M1, c1, d1)) (hf : g_find y pc E (gH y) = some none) : g_R xs L y pc lv st M c d (.inr E, M1, c + c1, d + d1) := by
  obtain ⟨k1, hz⟩ := hz
  refine ⟨k1 + 1, ?_⟩
  unfold g_run; rw [hT]; dsimp only; rw [hI]; dsimp only; rw [hr]; dsimp only; rw [hc]; dsimp only
  rw [hz]
  dsimp only
  rw [hf]
/-! where no exception is thrown -/
def j_new (i : Instr) : Bool := match i with
  | .new _ => true
  | _ => false
theorem j_thr {y pc n : Nat} {i : Instr} (hI : gI y pc = some (i, n)) (hn : j_new i = false) : gThr y pc = none := by
  cases hT : gThr y pc with
  | none => rfl
  | some v =>
    have hw := g_look gv_T hT
    obtain ⟨E1, ik, is, ic, tx, wide⟩ := v
    simp only [gp_T, Bool.and_eq_true, decide_eq_true_eq] at hw
    obtain ⟨-, -, -, h0, -⟩ := hw
    rw [hI] at h0
    cases h0
    cases hn
