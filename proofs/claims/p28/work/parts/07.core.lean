/-! THE PURE MEMORY: cells by relative addresses 0, 1, 2 ..; ρ gives each its address in the machine's heap. A cell is an object (its class's place in vwCl, its fields), an array (its type's place in g_ty, length, contents), or nothing that is told (none). -/
abbrev gE : Type := (Nat × List Value) ⊕ (Nat × Nat × ((Nat → Int32) ⊕ (Nat → Int64) ⊕ (Nat → Option Nat)))
abbrev gM : Type := Nat × (Nat → Option gE)
def g_tr (ρ : Nat → Nat) : Value → Value := fun v => match v with
  | .ref k => .ref (ρ k)
  | w => w
def g_trA (cA : ClassId) (ρ : Nat → Nat) (x : Nat × ((Nat → Int32) ⊕ (Nat → Int64) ⊕ (Nat → Option Nat))) : ClassId × vp_A := match x.2 with
  | .inl f => (cA, x.1, .inl f)
  | .inr (.inl f) => (cA, x.1, .inr (.inl f))
  | .inr (.inr f) => (cA, x.1, .inr (.inr (.inr (.inr (fun i => (f i).map ρ)))))
def g_trE (cA : Nat → ClassId) (ρ : Nat → Nat) (e : gE) : va_E := match e with
  | .inl o => .inr (o.1, o.2.map (g_tr ρ))
  | .inr a => .inl (g_trA (cA a.1) ρ a.2)
def g_wd (cA : Nat → ClassId) (ρ : Nat → Nat) (M : gM) : va_W := (List.range M.1).filterMap (fun k => (M.2 k).map (fun e => (ρ k, g_trE cA ρ e)))
theorem g_wd_succ (cA : Nat → ClassId) (ρ : Nat → Nat) (n : Nat) (f : Nat → Option gE) : g_wd cA ρ (n + 1, f) = g_wd cA ρ (n, f) ++ ((f n).map (fun e => (ρ n, g_trE cA ρ e))).toList := by
  simp only [g_wd, List.range_succ, List.filterMap_append]
  cases h : f n <;> simp [h]
theorem g_wd_congr {cA : Nat → ClassId} {ρ ρ' : Nat → Nat} {f f' : Nat → Option gE} : ∀ {n : Nat}, (∀ k, k < n → f k = f' k) → (∀ k, k < n → ∀ e, f k = some e → ρ k = ρ' k ∧ g_trE cA ρ e = g_trE cA ρ' e) → g_wd cA ρ (n, f) = g_wd cA ρ' (n, f')
  | 0, _, _ => rfl
  | n + 1, h1, h2 => by
    rw [g_wd_succ, g_wd_succ, g_wd_congr (fun k hk => h1 k (Nat.lt_succ_of_lt hk)) (fun k hk => h2 k (Nat.lt_succ_of_lt hk)), ← h1 n (Nat.lt_succ_self n)]
    cases he : f n with
    | none => rfl
    | some e =>
      obtain ⟨a, b⟩ := h2 n (Nat.lt_succ_self n) e he
      simp only [Option.map_some, a, b]
/-- a cell's place in the world, and what writing there gives -/
theorem g_at {cA : Nat → ClassId} {ρ : Nat → Nat} {f : Nat → Option gE} {k : Nat} {e : gE} : ∀ {n : Nat}, k < n → f k = some e → ∃ q0, (g_wd cA ρ (n, f))[q0]? = some (ρ k, g_trE cA ρ e) ∧ ∀ e', (g_wd cA ρ (n, f)).set q0 (ρ k, g_trE cA ρ e') = g_wd cA ρ (n, va_up f k (some e'))
  | 0, h, _ => absurd h (Nat.not_lt_zero k)
  | n + 1, h, he => by
    rcases Nat.lt_or_ge k n with hk | hk
    · obtain ⟨q0, h1, h2⟩ := g_at (cA := cA) (ρ := ρ) hk he
      have hlt : q0 < (g_wd cA ρ (n, f)).length := (List.getElem?_eq_some_iff.mp h1).1
      refine ⟨q0, by rw [g_wd_succ, List.getElem?_append_left hlt]; exact h1, fun e' => ?_⟩
      rw [g_wd_succ, g_wd_succ, List.set_append_left q0 _ hlt, h2 e']
      have hn : va_up f k (some e') n = f n := by unfold va_up; rw [if_neg (Nat.ne_of_gt hk)]
      rw [hn]
    · have hkn : k = n := Nat.le_antisymm (Nat.lt_succ_iff.mp h) hk
      subst hkn
      refine ⟨(g_wd cA ρ (k, f)).length, ?_, fun e' => ?_⟩
      · rw [g_wd_succ, he, List.getElem?_append_right (Nat.le_refl _)]
        simp
      · rw [g_wd_succ, g_wd_succ, he]
        have hs : va_up f k (some e') k = some e' := by unfold va_up; rw [if_pos rfl]
        have hc : g_wd cA ρ (k, va_up f k (some e')) = g_wd cA ρ (k, f) := g_wd_congr (fun j hj => by unfold va_up; rw [if_neg (Nat.ne_of_lt hj)]) (fun _ _ _ _ => ⟨rfl, rfl⟩)
        rw [hs, hc, List.set_append_right _ _ (Nat.le_refl _)]
        simp
/-- a value's own reference lies below n -/
def g_ok (n : Nat) : Value → Bool := fun v => match v with
  | .ref k => decide (k < n)
  | _ => true
def g_okE (n : Nat) (e : gE) : Prop := match e with
  | .inl o => ∀ v ∈ o.2, g_ok n v = true
  | .inr a => match a.2.2 with
    | .inl _ => True
    | .inr (.inl _) => True
    | .inr (.inr f) => ∀ i k, f i = some k → k < n
def g_WF (M : gM) : Prop := ∀ k, k < M.1 → ∀ e, M.2 k = some e → g_okE M.1 e
theorem g_ok_mono {n n' : Nat} (h : n ≤ n') {v : Value} (hv : g_ok n v = true) : g_ok n' v = true := by
  cases v <;> first | rfl | (simp only [g_ok, decide_eq_true_eq] at hv ⊢; exact Nat.lt_of_lt_of_le hv h)
theorem g_okE_mono {n n' : Nat} (h : n ≤ n') {e : gE} (he : g_okE n e) : g_okE n' e := by
  rcases e with o | ⟨t, len, f | f | f⟩
  · exact fun v hv => g_ok_mono h (he v hv)
  · trivial
  · trivial
  · exact fun i k hk => Nat.lt_of_lt_of_le (he i k hk) h
/-- ρ' agrees with ρ below n -/
def g_ag (n : Nat) (ρ ρ' : Nat → Nat) : Prop := ∀ k, k < n → ρ' k = ρ k
theorem g_ag.rf {n : Nat} {ρ : Nat → Nat} : g_ag n ρ ρ := fun _ _ => rfl
theorem g_ag.trans {n n' : Nat} {ρ ρ1 ρ2 : Nat → Nat} (h1 : g_ag n ρ ρ1) (hn : n ≤ n') (h2 : g_ag n' ρ1 ρ2) : g_ag n ρ ρ2 := fun k hk => (h2 k (Nat.lt_of_lt_of_le hk hn)).trans (h1 k hk)
theorem g_ag.up {n : Nat} {ρ : Nat → Nat} {q : Nat} : g_ag n ρ (va_up ρ n q) := fun k hk => by unfold va_up; rw [if_neg (Nat.ne_of_lt hk)]
theorem g_tr_ag {n : Nat} {ρ ρ' : Nat → Nat} (h : g_ag n ρ ρ') {v : Value} (hv : g_ok n v = true) : g_tr ρ' v = g_tr ρ v := by
  cases v <;> first | rfl | (simp only [g_ok, decide_eq_true_eq] at hv; simp only [g_tr, h _ hv])
theorem g_trs_ag {n : Nat} {ρ ρ' : Nat → Nat} (h : g_ag n ρ ρ') {l : List Value} (hl : l.all (g_ok n) = true) : l.map (g_tr ρ') = l.map (g_tr ρ) :=
  List.map_congr_left fun v hv => g_tr_ag h (List.all_eq_true.mp hl v hv)
abbrev gL : Type := List (Nat × Value)
def g_trL (ρ : Nat → Nat) (lv : gL) : gL := lv.map (fun q => (q.1, g_tr ρ q.2))
theorem g_trL_ag {n : Nat} {ρ ρ' : Nat → Nat} (h : g_ag n ρ ρ') {lv : gL} (hl : lv.all (fun q => g_ok n q.2) = true) : g_trL ρ' lv = g_trL ρ lv :=
  List.map_congr_left fun q hq => by rw [g_tr_ag h (List.all_eq_true.mp hl q hq)]
theorem g_trE_ag {cA : Nat → ClassId} {n : Nat} {ρ ρ' : Nat → Nat} (h : g_ag n ρ ρ') {e : gE} (he : g_okE n e) : g_trE cA ρ' e = g_trE cA ρ e := by
  rcases e with o | ⟨t, len, f | f | f⟩
  · show Sum.inr (o.1, o.2.map (g_tr ρ')) = Sum.inr (o.1, o.2.map (g_tr ρ))
    rw [List.map_congr_left fun v hv => g_tr_ag h (he v hv)]
  · rfl
  · rfl
  · have e : (fun i => (f i).map ρ') = fun i => (f i).map ρ := funext fun i => by
      cases hi : f i with
      | none => rfl
      | some k => simp only [Option.map_some, h k (he i k hi)]
    show Sum.inl (cA t, len, Sum.inr (Sum.inr (Sum.inr (Sum.inr (fun i => (f i).map ρ'))))) = Sum.inl (cA t, len, Sum.inr (Sum.inr (Sum.inr (Sum.inr (fun i => (f i).map ρ)))))
    rw [e]
theorem g_wd_ag {cA : Nat → ClassId} {ρ ρ' : Nat → Nat} {M : gM} (hw : g_WF M) (h : g_ag M.1 ρ ρ') : g_wd cA ρ' M = g_wd cA ρ M :=
  (g_wd_congr (n := M.1) (f := M.2) (f' := M.2) (fun _ _ => rfl) (fun k hk e he => ⟨h k hk, g_trE_ag h (hw k hk e he)⟩))
/-- a new cell -/
theorem g_push {cA : Nat → ClassId} {ρ : Nat → Nat} {M : gM} (hw : g_WF M) (q : Nat) (e : gE) (he : g_okE M.1 e) : g_wd cA (va_up ρ M.1 q) (M.1 + 1, va_up M.2 M.1 (some e)) = g_wd cA ρ M ++ [(q, g_trE cA ρ e)] := by
  have h0 : va_up M.2 M.1 (some e) M.1 = some e := by unfold va_up; rw [if_pos rfl]
  have hq : va_up ρ M.1 q M.1 = q := by unfold va_up; rw [if_pos rfl]
  have hc : g_wd cA (va_up ρ M.1 q) (M.1, va_up M.2 M.1 (some e)) = g_wd cA ρ M := by
    rw [← g_wd_ag hw (g_ag.up (q := q))]
    exact g_wd_congr (fun j hj => by unfold va_up; rw [if_neg (Nat.ne_of_lt hj)]) (fun _ _ _ _ => ⟨rfl, rfl⟩)
  rw [g_wd_succ, h0, hc, Option.map_some, hq, g_trE_ag g_ag.up he]
  rfl
/-- a cell of which nothing is told -/
theorem g_dark {cA : Nat → ClassId} {ρ : Nat → Nat} {M : gM} (hw : g_WF M) (q : Nat) : g_wd cA (va_up ρ M.1 q) (M.1 + 1, va_up M.2 M.1 none) = g_wd cA ρ M := by
  have h0 : va_up M.2 M.1 (none : Option gE) M.1 = none := by unfold va_up; rw [if_pos rfl]
  have hc : g_wd cA (va_up ρ M.1 q) (M.1, va_up M.2 M.1 none) = g_wd cA ρ M := by
    rw [← g_wd_ag hw (g_ag.up (q := q))]
    exact g_wd_congr (fun j hj => by unfold va_up; rw [if_neg (Nat.ne_of_lt hj)]) (fun _ _ _ _ => ⟨rfl, rfl⟩)
  rw [g_wd_succ, h0, hc]
  simp
theorem g_WF_up {M : gM} (hw : g_WF M) {k : Nat} {e : gE} (he : g_okE M.1 e) : g_WF (M.1, va_up M.2 k (some e)) := fun j hj e' h => by
  by_cases hk : j = k
  · subst hk
    have h1 : va_up M.2 j (some e) j = some e := by unfold va_up; rw [if_pos rfl]
    cases h1.symm.trans h
    exact he
  · have h1 : va_up M.2 k (some e) j = M.2 j := by unfold va_up; rw [if_neg hk]
    exact hw j hj e' (h1.symm.trans h)
theorem g_WF_new {M : gM} (hw : g_WF M) {e : Option gE} (he : ∀ e', e = some e' → g_okE (M.1 + 1) e') : g_WF (M.1 + 1, va_up M.2 M.1 e) := fun j hj e' h => by
  by_cases hk : j = M.1
  · subst hk
    have h1 : va_up M.2 M.1 e M.1 = e := by unfold va_up; rw [if_pos rfl]
    exact he e' (h1.symm.trans h)
  · have h1 : va_up M.2 M.1 e j = M.2 j := by unfold va_up; rw [if_neg hk]
    have hj' : j < M.1 := Nat.lt_of_le_of_ne (Nat.lt_succ_iff.mp hj) hk
    exact g_okE_mono (Nat.le_succ _) (hw j hj' e' (h1.symm.trans h))
/-- the words that are carried from frame to frame -/
def g_gw (w : Cond) : Bool := (w.onTables && w.keepsH) || (match w with
  | .arrayClass _ => true
  | .declares _ => true
  | .castable _ _ => true
  | _ => false)
theorem g_gw_moved {args args' : Array Value} {s U : State} (hW : s.WarmedH U.vm) {w : Cond} (hg : g_gw w = true) (h : w.before args s = true) : w.before args' U = true := by
  simp only [g_gw, Bool.or_eq_true, Bool.and_eq_true] at hg
  rcases hg with ⟨h1, h2⟩ | hg
  · have := Cond.onTables_warmH (args' := args') (T := U) hW h1 h2 h
    exact this
  · have : (∃ ty, w = .arrayClass ty) ∨ (∃ x, w = .declares x) ∨ ∃ a b, w = .castable a b := by
      cases w <;> first | exact Or.inl ⟨_, rfl⟩ | exact Or.inr (Or.inl ⟨_, rfl⟩) | exact Or.inr (Or.inr ⟨_, _, rfl⟩) | exact absurd hg (by simp)
    rcases this with this | ⟨x, rfl⟩ | ⟨a, b, rfl⟩
    · exact word_at hW (Or.inr this) h
    · exact va_Nw.use rfl (va_Nw.warmD hW (va_Nw.of rfl h))
    · exact va_Nw.use rfl (va_Nw.warmC hW (va_Nw.of rfl h))
theorem g_gw_ot {w : Cond} (hg : g_gw w = true) : vx_ot w = true := by
  simp only [g_gw, Bool.or_eq_true, Bool.and_eq_true] at hg
  rcases hg with ⟨h1, h2⟩ | hg
  · simp only [vx_ot, h1, Bool.true_or]
  · have : (∃ ty, w = .arrayClass ty) ∨ (∃ x, w = .declares x) ∨ ∃ a b, w = .castable a b := by
      cases w <;> first | exact Or.inl ⟨_, rfl⟩ | exact Or.inr (Or.inl ⟨_, rfl⟩) | exact Or.inr (Or.inr ⟨_, _, rfl⟩) | exact absurd hg (by simp)
    rcases this with ⟨ty, rfl⟩ | ⟨x, rfl⟩ | ⟨a, b, rfl⟩
    · simp [vx_ot, goodWord]
    · rfl
    · rfl
