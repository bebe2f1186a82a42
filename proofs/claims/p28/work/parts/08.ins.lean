def gN (y : Nat) : MethodName := gm_N.getD y ⟨"", "", ""⟩
def gLo (y : Nat) : Nat := gm_L.getD y 0
def gR (y : Nat) : Option FieldType := gm_R.getD y none
def gH (y : Nat) : List (Nat × Nat × Nat × Nat) := gm_H.getD y []
def gF (y : Nat) : Nat := gm_F.getD y 0
def gW (y : Nat) : Nat := gm_W.getD y 0
def gK (y : Nat) : Nat := gm_K.getD y 0
def gOwn (y : Nat) : String := gc_N.getD (gK y) ""
def gCq (y : Nat) : ByteArray × List (List (Nat × Instr × Nat)) := gm_CI.getD y (⟨#[]⟩, [])
def gC (y : Nat) : ByteArray := (gCq y).1
def gI (y pc : Nat) : Option (Instr × Nat) := ((gCq y).2.getD (pc / 32) []).lookup pc
theorem gI_ok {y pc : Nat} {i : Instr} {n : Nat} (h : gI y pc = some (i, n)) : decode (gC y) pc = .ok (i, n) ∧ (glen i ≠ 0 → decode (gC y) pc = .ok (i, glen i)) := by
  have h1 : (pc, i, n) ∈ (gCq y).2.getD (pc / 32) [] := g_lookup_mem h
  rcases Nat.lt_or_ge (pc / 32) (gCq y).2.length with hc | hc
  · have h2 : (gCq y).2.getD (pc / 32) [] ∈ (gCq y).2 := g_getD_mem hc
    rcases Nat.lt_or_ge y gm_CI.length with hy | hy
    · have h3 : gCq y ∈ gm_CI := g_getD_mem hy
      have h4 := List.all_eq_true.mp (gv_all _ h3 _ h2) _ h1
      simp only [Bool.and_eq_true, Bool.or_eq_true, decide_eq_true_eq, beq_iff_eq] at h4
      obtain ⟨h5, h6⟩ := h4
      refine ⟨h5, fun h0 => ?_⟩
      rcases h6 with h6 | h6
      · rw [h6]; exact h5
      · exact absurd h6 h0
    · have : gCq y = (⟨#[]⟩, []) := g_getD_ge hy
      rw [this] at hc
      exact absurd hc (Nat.not_lt_zero _)
  · rw [g_getD_ge hc] at h1
    cases h1
