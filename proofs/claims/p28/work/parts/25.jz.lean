/-! CONTRACTS OF THE CLASS: from that place on the method ends, in the way o, in the state ψ', with Post; whatever lies behind the class's cells: that comes to X', with Z X X' (= unless said) -/
def jQ (m : Nat) (L : List (Option Value)) (lv : gL) : Prop := j_ok m lv ∧ ∀ (i : Nat) (v : Value), L[i]? = some (some v) → lv.lookup i = some v
abbrev jO : Type := Option Value ⊕ String
def jxc (o : jO) : Nat := match o with
  | .inl _ => 0
  | .inr _ => 1
def JZ (Z : gM → gM → Prop) (xs : Nat → Int32) (L0 y pc : Nat) (L : List (Option Value)) (st : List Value) (ψ : jSt) (P : jO → jSt → Prop) : Prop :=
  ∃ o ψ', P o ψ' ∧ ∀ X : gM, 131 ≤ X.1 → (∃ Y, Z X Y) → ∃ X', Z X X' ∧ ∀ (lv : gL) (c d : Nat), jQ 131 L lv → g_R xs L0 y pc lv st (jM ψ X) c d (o, jM ψ' X', c + jxc o, d + 6 * jxc o)
def oI (Q : Int → jSt → Prop) : jO → jSt → Prop := fun o ψ => ∃ x, o = .inl (some (.int (jI x))) ∧ Q x ψ
def oR (Q : Nat → jSt → Prop) : jO → jSt → Prop := fun o ψ => ∃ x, o = .inl (some (.ref x)) ∧ Q x ψ
def oL (Q : Int64 → jSt → Prop) : jO → jSt → Prop := fun o ψ => ∃ x, o = .inl (some (.long x)) ∧ Q x ψ
def oD (Q : UInt64 → jSt → Prop) : jO → jSt → Prop := fun o ψ => ∃ x, o = .inl (some (.double x)) ∧ Q x ψ
def oV (Q : jSt → Prop) : jO → jSt → Prop := fun o ψ => o = .inl none ∧ Q ψ
def oX (E : String) (Q : jSt → Prop) : jO → jSt → Prop := fun o ψ => o = .inr E ∧ Q ψ
/-- what a store asks of the local before it: no long, no double -/
def j_n2 (L : List (Option Value)) (i : Nat) : Bool := match i with
  | 0 => true
  | k + 1 => match L[k]? with
    | some (some w) => w.category == 1
    | _ => true
theorem jQ_st1 {m : Nat} {L : List (Option Value)} {lv : gL} {i : Nat} {v : Value} (hl : jQ m L lv) (hn : j_n2 L i = true) (hv : g_ok m v = true) : jQ m (L.set i (some v)) (g_st1 lv i v) := by
  refine ⟨j_ok_st hl.1 hv, fun j w h => ?_⟩
  by_cases hij : i = j
  · subst hij
    rcases Nat.lt_or_ge i L.length with hi | hi
    · rw [List.getElem?_set_self hi] at h
      cases h
      exact j_lk
    · rw [List.getElem?_eq_none (by rw [List.length_set]; exact hi)] at h
      cases h
  · rw [List.getElem?_set_ne hij] at h
    have h1 := hl.2 j w h
    unfold g_st1
    rw [List.lookup_cons]
    have e : (j == i) = false := beq_eq_false_iff_ne.mpr (fun q => hij q.symm)
    rw [e]
    refine j_flt ?_ h1
    by_cases hj : j + 1 = i
    · subst hj
      unfold j_n2 at hn
      dsimp only at hn
      rw [h] at hn
      have e2 : w.category = 1 := eq_of_beq hn
      simp [e2]
    · have e3 : (j + 1 == i) = false := beq_eq_false_iff_ne.mpr hj
      simp only [e, e3]
      rfl
theorem jQ_st2 {m : Nat} {L : List (Option Value)} {lv : gL} {i : Nat} {v : Value} (hl : jQ m L lv) (hn : j_n2 L i = true) (hv : g_ok m v = true) : jQ m ((L.set (i + 1) none).set i (some v)) (g_st2 lv i v) := by
  refine ⟨?_, fun j w h => ?_⟩
  · unfold j_ok g_st2
    rw [List.all_cons, hv, Bool.true_and]
    exact List.all_eq_true.mpr fun q hq => List.all_eq_true.mp hl.1 q (List.mem_filter.mp hq).1
  · by_cases hij : i = j
    · subst hij
      rcases Nat.lt_or_ge i L.length with hi | hi
      · rw [List.getElem?_set_self (by rw [List.length_set]; exact hi)] at h
        cases h
        unfold g_st2
        rw [List.lookup_cons]
        simp
      · rw [List.getElem?_eq_none (by rw [List.length_set, List.length_set]; exact hi)] at h
        cases h
    · rw [List.getElem?_set_ne hij] at h
      by_cases hj1 : i + 1 = j
      · subst hj1
        rcases Nat.lt_or_ge (i + 1) L.length with hi | hi
        · rw [List.getElem?_set_self hi] at h
          cases h
        · rw [List.getElem?_eq_none (by rw [List.length_set]; exact hi)] at h
          cases h
      · rw [List.getElem?_set_ne hj1] at h
        have h1 := hl.2 j w h
        unfold g_st2
        rw [List.lookup_cons]
        have e : (j == i) = false := beq_eq_false_iff_ne.mpr (fun q => hij q.symm)
        have e1 : (j == i + 1) = false := beq_eq_false_iff_ne.mpr (fun q => hj1 q.symm)
        rw [e]
        refine j_flt ?_ h1
        by_cases hj : j + 1 = i
        · subst hj
          unfold j_n2 at hn
          dsimp only at hn
          rw [h] at hn
          have e2 : w.category = 1 := eq_of_beq hn
          simp [e2]
          omega
        · have e3 : (j + 1 == i) = false := beq_eq_false_iff_ne.mpr hj
          simp only [e, e1, e3]
          rfl
theorem jQ_mono {m : Nat} {L L' : List (Option Value)} {lv : gL} (hl : jQ m L lv) (h : ∀ (i : Nat) (v : Value), L'[i]? = some (some v) → L[i]? = some (some v)) : jQ m L' lv := ⟨hl.1, fun i v q => hl.2 i v (h i v q)⟩
theorem jQ_le {m m' : Nat} {L : List (Option Value)} {lv : gL} (hm : m ≤ m') (hl : jQ m L lv) : jQ m' L lv := ⟨j_ok_mono hm hl.1, hl.2⟩
/-- L' tells no more than L -/
def jLe : List (Option Value) → List (Option Value) → Prop
  | [], _ => True
  | none :: l', [] => jLe l' []
  | some _ :: _, [] => False
  | none :: l', _ :: l => jLe l' l
  | some v :: l', w :: l => w = some v ∧ jLe l' l
theorem jLe_ok : ∀ {L' L : List (Option Value)}, jLe L' L → ∀ (i : Nat) (v : Value), L'[i]? = some (some v) → L[i]? = some (some v)
  | [], _, _, _, _, h => by cases h
  | none :: l', [], h, 0, v, h1 => by cases h1
  | none :: l', [], h, i + 1, v, h1 => by
    have := jLe_ok (L' := l') (L := []) h i v h1
    cases this
  | some _ :: _, [], h, _, _, _ => h.elim
  | none :: l', _ :: l, h, 0, v, h1 => by cases h1
  | none :: l', _ :: l, h, i + 1, v, h1 => jLe_ok (L' := l') (L := l) h i v h1
  | some v0 :: l', w :: l, h, 0, v, h1 => by
    have e : some v0 = some v := Option.some.inj h1
    show some w = some (some v)
    rw [h.1, e]
  | some v0 :: l', w :: l, h, i + 1, v, h1 => jLe_ok (L' := l') (L := l) h.2 i v h1
section JZS
variable {Z : gM → gM → Prop} {xs : Nat → Int32} {L0 y pc n : Nat} {L : List (Option Value)} {st : List Value} {ψ : jSt} {P : jO → jSt → Prop}
theorem JZ_lift {pc' : Nat} {L' : List (Option Value)} {st' : List Value} {ψ1 : jSt} (h : JZ Z xs L0 y pc' L' st' ψ1 P)
    (hs : ∀ (X : gM) (lv : gL) (c d : Nat) (o : gOut), 131 ≤ X.1 → jQ 131 L lv → (∀ lv', jQ 131 L' lv' → g_R xs L0 y pc' lv' st' (jM ψ1 X) c d o) → g_R xs L0 y pc lv st (jM ψ X) c d o) : JZ Z xs L0 y pc L st ψ P := by
  obtain ⟨v, ψ', hP, hr⟩ := h
  refine ⟨v, ψ', hP, fun X hX hY => ?_⟩
  obtain ⟨X', hZ, hr⟩ := hr X hX hY
  exact ⟨X', hZ, fun lv c d hl => hs X lv c d _ hX hl fun lv' hl' => hr lv' c d hl'⟩
theorem JZ_post {Q : jO → jSt → Prop} (h : JZ Z xs L0 y pc L st ψ Q) (hQ : ∀ v ψ', Q v ψ' → P v ψ') : JZ Z xs L0 y pc L st ψ P := by
  obtain ⟨v, ψ', hP, hr⟩ := h
  exact ⟨v, ψ', hQ v ψ' hP, hr⟩
theorem JZ_fg {L' : List (Option Value)} (h : JZ Z xs L0 y pc L' st ψ P) (hL : jLe L' L) : JZ Z xs L0 y pc L st ψ P :=
  JZ_lift h fun X lv c d o hX hl K => K lv (jQ_mono hl (jLe_ok hL))
/-- a loop: Inv i s at its head, Lf i s its locals -/
theorem JZ_for {σ : Type} {N : Nat} {I : Nat → σ → jSt → Prop} {Lf : Nat → σ → List (Option Value)}
    (hb : ∀ i s ψ, i < N → I i s ψ → (∀ s' ψ', I (i + 1) s' ψ' → JZ Z xs L0 y pc (Lf (i + 1) s') st ψ' P) → JZ Z xs L0 y pc (Lf i s) st ψ P)
    (he : ∀ s ψ, I N s ψ → JZ Z xs L0 y pc (Lf N s) st ψ P) : ∀ (k i : Nat) (s : σ) (ψ : jSt), i + k = N → I i s ψ → JZ Z xs L0 y pc (Lf i s) st ψ P
  | 0, i, s, ψ, hi, h => by
    have e : i = N := hi
    subst e
    exact he s ψ h
  | k + 1, i, s, ψ, hi, h => hb i s ψ (by omega) h fun s' ψ' h' => JZ_for hb he k (i + 1) s' ψ' (by omega) h'
theorem JZ_forP {σ : Type} {N : Nat} {I : Nat → σ → Prop} {Lf : Nat → σ → List (Option Value)}
    (hb : ∀ i s, i < N → I i s → (∀ s', I (i + 1) s' → JZ Z xs L0 y pc (Lf (i + 1) s') st ψ P) → JZ Z xs L0 y pc (Lf i s) st ψ P)
    (he : ∀ s, I N s → JZ Z xs L0 y pc (Lf N s) st ψ P) (k i : Nat) (s : σ) (hi : i + k = N) (h : I i s) : JZ Z xs L0 y pc (Lf i s) st ψ P :=
  JZ_for (I := fun i s ψ1 => ψ1 = ψ ∧ I i s) (fun i s ψ1 hi h K => by
    obtain ⟨h1, h2⟩ := h
    rw [h1]
    exact hb i s hi h2 fun s' h' => K s' ψ ⟨rfl, h'⟩) (fun s ψ1 h => by
    obtain ⟨h1, h2⟩ := h
    rw [h1]
    exact he s h2) k i s ψ hi ⟨rfl, h⟩

theorem JZ_iconst {v : Int} (hI : gI y pc = some (.iconst v, n)) (h : JZ Z xs L0 y (pc + 1) L (.int (jI v) :: st) ψ P) : JZ Z xs L0 y pc L (st) ψ P :=
  JZ_lift h fun X lv c d o hX hl K => J_iconst hI (K lv hl)
theorem JZ_lconst {v : Fin 2} (hI : gI y pc = some (.lconst v, n)) (h : JZ Z xs L0 y (pc + 1) L (.long (Int64.ofNat (v : Nat)) :: st) ψ P) : JZ Z xs L0 y pc L (st) ψ P :=
  JZ_lift h fun X lv c d o hX hl K => J_lconst hI (K lv hl)
theorem JZ_bipush {v : Int} (hI : gI y pc = some (.bipush v, n)) (hv : (Int8.ofInt v).toInt32 = jI v) (h : JZ Z xs L0 y (pc + 2) L (.int (jI v) :: st) ψ P) : JZ Z xs L0 y pc L (st) ψ P :=
  JZ_lift h fun X lv c d o hX hl K => J_bipush hI hv (K lv hl)
theorem JZ_sipush {v : Int} (hI : gI y pc = some (.sipush v, n)) (hv : (Int16.ofInt v).toInt32 = jI v) (h : JZ Z xs L0 y (pc + 3) L (.int (jI v) :: st) ψ P) : JZ Z xs L0 y pc L (st) ψ P :=
  JZ_lift h fun X lv c d o hX hl K => J_sipush hI hv (K lv hl)
theorem JZ_iadd {x1 x2 : Int} (hI : gI y pc = some (.iadd, n)) (h : JZ Z xs L0 y (pc + 1) L (.int (jI (x1 + x2)) :: st) ψ P) : JZ Z xs L0 y pc L (.int (jI x2) :: .int (jI x1) :: st) ψ P :=
  JZ_lift h fun X lv c d o hX hl K => J_iadd hI (K lv hl)
theorem JZ_isub {x1 x2 : Int} (hI : gI y pc = some (.isub, n)) (h : JZ Z xs L0 y (pc + 1) L (.int (jI (x1 - x2)) :: st) ψ P) : JZ Z xs L0 y pc L (.int (jI x2) :: .int (jI x1) :: st) ψ P :=
  JZ_lift h fun X lv c d o hX hl K => J_isub hI (K lv hl)
theorem JZ_imul {x1 x2 : Int} (hI : gI y pc = some (.imul, n)) (h : JZ Z xs L0 y (pc + 1) L (.int (jI (x1 * x2)) :: st) ψ P) : JZ Z xs L0 y pc L (.int (jI x2) :: .int (jI x1) :: st) ψ P :=
  JZ_lift h fun X lv c d o hX hl K => J_imul hI (K lv hl)
theorem JZ_ineg {x : Int} (hI : gI y pc = some (.ineg, n)) (h : JZ Z xs L0 y (pc + 1) L (.int (jI (-x)) :: st) ψ P) : JZ Z xs L0 y pc L (.int (jI x) :: st) ψ P :=
  JZ_lift h fun X lv c d o hX hl K => J_ineg hI (K lv hl)
theorem JZ_iand {x1 x2 : Int32} (hI : gI y pc = some (.iand, n)) (h : JZ Z xs L0 y (pc + 1) L (.int (x1 &&& x2) :: st) ψ P) : JZ Z xs L0 y pc L (.int x2 :: .int x1 :: st) ψ P :=
  JZ_lift h fun X lv c d o hX hl K => J_iand hI (K lv hl)
theorem JZ_ior {x1 x2 : Int32} (hI : gI y pc = some (.ior, n)) (h : JZ Z xs L0 y (pc + 1) L (.int (x1 ||| x2) :: st) ψ P) : JZ Z xs L0 y pc L (.int x2 :: .int x1 :: st) ψ P :=
  JZ_lift h fun X lv c d o hX hl K => J_ior hI (K lv hl)
theorem JZ_ishl {x1 x2 : Int32} (hI : gI y pc = some (.ishl, n)) (h : JZ Z xs L0 y (pc + 1) L (.int (x1 <<< (x2 &&& 31)) :: st) ψ P) : JZ Z xs L0 y pc L (.int x2 :: .int x1 :: st) ψ P :=
  JZ_lift h fun X lv c d o hX hl K => J_ishl hI (K lv hl)
theorem JZ_ishr {x1 x2 : Int32} (hI : gI y pc = some (.ishr, n)) (h : JZ Z xs L0 y (pc + 1) L (.int (x1 >>> (x2 &&& 31)) :: st) ψ P) : JZ Z xs L0 y pc L (.int x2 :: .int x1 :: st) ψ P :=
  JZ_lift h fun X lv c d o hX hl K => J_ishr hI (K lv hl)
theorem JZ_iadd32 {x1 x2 : Int32} (hI : gI y pc = some (.iadd, n)) (h : JZ Z xs L0 y (pc + 1) L (.int (x1 + x2) :: st) ψ P) : JZ Z xs L0 y pc L (.int x2 :: .int x1 :: st) ψ P :=
  JZ_lift h fun X lv c d o hX hl K => J_iadd32 hI (K lv hl)
theorem JZ_imul32 {x1 x2 : Int32} (hI : gI y pc = some (.imul, n)) (h : JZ Z xs L0 y (pc + 1) L (.int (x1 * x2) :: st) ψ P) : JZ Z xs L0 y pc L (.int x2 :: .int x1 :: st) ψ P :=
  JZ_lift h fun X lv c d o hX hl K => J_imul32 hI (K lv hl)
theorem JZ_irem32 {x1 x2 : Int32} (hI : gI y pc = some (.irem, n)) (h0 : ¬ x2 = 0) (h : JZ Z xs L0 y (pc + 1) L (.int (x1 - x1 / x2 * x2) :: st) ψ P) : JZ Z xs L0 y pc L (.int x2 :: .int x1 :: st) ψ P :=
  JZ_lift h fun X lv c d o hX hl K => J_irem32 hI h0 (K lv hl)
theorem JZ_idiv32 {x1 x2 : Int32} (hI : gI y pc = some (.idiv, n)) (h0 : ¬ x2 = 0) (h : JZ Z xs L0 y (pc + 1) L (.int (x1 / x2) :: st) ψ P) : JZ Z xs L0 y pc L (.int x2 :: .int x1 :: st) ψ P :=
  JZ_lift h fun X lv c d o hX hl K => J_idiv32 hI h0 (K lv hl)
theorem JZ_ladd {x1 x2 : Int64} (hI : gI y pc = some (.ladd, n)) (h : JZ Z xs L0 y (pc + 1) L (.long (x1 + x2) :: st) ψ P) : JZ Z xs L0 y pc L (.long x2 :: .long x1 :: st) ψ P :=
  JZ_lift h fun X lv c d o hX hl K => J_ladd hI (K lv hl)
theorem JZ_lmul {x1 x2 : Int64} (hI : gI y pc = some (.lmul, n)) (h : JZ Z xs L0 y (pc + 1) L (.long (x1 * x2) :: st) ψ P) : JZ Z xs L0 y pc L (.long x2 :: .long x1 :: st) ψ P :=
  JZ_lift h fun X lv c d o hX hl K => J_lmul hI (K lv hl)
theorem JZ_lcmp {x1 x2 : Int64} (hI : gI y pc = some (.lcmp, n)) (h : JZ Z xs L0 y (pc + 1) L (.int (lg_cmp x1 x2) :: st) ψ P) : JZ Z xs L0 y pc L (.long x2 :: .long x1 :: st) ψ P :=
  JZ_lift h fun X lv c d o hX hl K => J_lcmp hI (K lv hl)
theorem JZ_i2l {x : Int32} (hI : gI y pc = some (.i2l, n)) (h : JZ Z xs L0 y (pc + 1) L (.long x.toInt64 :: st) ψ P) : JZ Z xs L0 y pc L (.int x :: st) ψ P :=
  JZ_lift h fun X lv c d o hX hl K => J_i2l hI (K lv hl)
theorem JZ_i2d {x : Int32} (hI : gI y pc = some (.i2d, n)) (h : JZ Z xs L0 y (pc + 1) L (.double (FP.i2d x) :: st) ψ P) : JZ Z xs L0 y pc L (.int x :: st) ψ P :=
  JZ_lift h fun X lv c d o hX hl K => J_i2d hI (K lv hl)
theorem JZ_dup {v : Value} (hI : gI y pc = some (.dup, n)) (hv : v.category = 1) (h : JZ Z xs L0 y (pc + 1) L (v :: v :: st) ψ P) : JZ Z xs L0 y pc L (v :: st) ψ P :=
  JZ_lift h fun X lv c d o hX hl K => J_dup hI hv (K lv hl)
theorem JZ_pop {v : Value} (hI : gI y pc = some (.pop, n)) (hv : v.category = 1) (h : JZ Z xs L0 y (pc + 1) L (st) ψ P) : JZ Z xs L0 y pc L (v :: st) ψ P :=
  JZ_lift h fun X lv c d o hX hl K => J_pop hI hv (K lv hl)
theorem JZ_dup_x1 {v2 v1 : Value} (hI : gI y pc = some (.dup_x1, n)) (h2 : v2.category = 1) (h1 : v1.category = 1) (h : JZ Z xs L0 y (pc + 1) L (v2 :: v1 :: v2 :: st) ψ P) : JZ Z xs L0 y pc L (v2 :: v1 :: st) ψ P :=
  JZ_lift h fun X lv c d o hX hl K => J_dup_x1 hI h2 h1 (K lv hl)
theorem JZ_dup2 {v2 v1 : Value} (hI : gI y pc = some (.dup2, n)) (h2 : v2.category = 1) (h1 : v1.category = 1) (h : JZ Z xs L0 y (pc + 1) L (v2 :: v1 :: v2 :: v1 :: st) ψ P) : JZ Z xs L0 y pc L (v2 :: v1 :: st) ψ P :=
  JZ_lift h fun X lv c d o hX hl K => J_dup2 hI h2 h1 (K lv hl)
theorem JZ_iload {i : Nat} {x : Int32} (hI : gI y pc = some (.iload i, n)) (hlk : L[i]? = some (some (.int x))) (h : JZ Z xs L0 y (pc + 2) L (.int x :: st) ψ P) : JZ Z xs L0 y pc L (st) ψ P :=
  JZ_lift h fun X lv c d o hX hl K => J_iload hI (hl.2 _ _ hlk) (K lv hl)
theorem JZ_iload_n {i : Fin 4} {x : Int32} (hI : gI y pc = some (.iload_n i, n)) (hlk : L[(i : Nat)]? = some (some (.int x))) (h : JZ Z xs L0 y (pc + 1) L (.int x :: st) ψ P) : JZ Z xs L0 y pc L (st) ψ P :=
  JZ_lift h fun X lv c d o hX hl K => J_iload_n hI (hl.2 _ _ hlk) (K lv hl)
theorem JZ_lload {i : Nat} {x : Int64} (hI : gI y pc = some (.lload i, n)) (hlk : L[i]? = some (some (.long x))) (h : JZ Z xs L0 y (pc + 2) L (.long x :: st) ψ P) : JZ Z xs L0 y pc L (st) ψ P :=
  JZ_lift h fun X lv c d o hX hl K => J_lload hI (hl.2 _ _ hlk) (K lv hl)
theorem JZ_lload_n {i : Fin 4} {x : Int64} (hI : gI y pc = some (.lload_n i, n)) (hlk : L[(i : Nat)]? = some (some (.long x))) (h : JZ Z xs L0 y (pc + 1) L (.long x :: st) ψ P) : JZ Z xs L0 y pc L (st) ψ P :=
  JZ_lift h fun X lv c d o hX hl K => J_lload_n hI (hl.2 _ _ hlk) (K lv hl)
theorem JZ_dload {i : Nat} {x : UInt64} (hI : gI y pc = some (.dload i, n)) (hlk : L[i]? = some (some (.double x))) (h : JZ Z xs L0 y (pc + 2) L (.double x :: st) ψ P) : JZ Z xs L0 y pc L (st) ψ P :=
  JZ_lift h fun X lv c d o hX hl K => J_dload hI (hl.2 _ _ hlk) (K lv hl)
theorem JZ_dload_n {i : Fin 4} {x : UInt64} (hI : gI y pc = some (.dload_n i, n)) (hlk : L[(i : Nat)]? = some (some (.double x))) (h : JZ Z xs L0 y (pc + 1) L (.double x :: st) ψ P) : JZ Z xs L0 y pc L (st) ψ P :=
  JZ_lift h fun X lv c d o hX hl K => J_dload_n hI (hl.2 _ _ hlk) (K lv hl)
theorem JZ_aload {i : Nat} {x : Nat} (hI : gI y pc = some (.aload i, n)) (hlk : L[i]? = some (some (.ref x))) (h : JZ Z xs L0 y (pc + 2) L (.ref x :: st) ψ P) : JZ Z xs L0 y pc L (st) ψ P :=
  JZ_lift h fun X lv c d o hX hl K => J_aload hI (hl.2 _ _ hlk) (K lv hl)
theorem JZ_aload_n {i : Fin 4} {x : Nat} (hI : gI y pc = some (.aload_n i, n)) (hlk : L[(i : Nat)]? = some (some (.ref x))) (h : JZ Z xs L0 y (pc + 1) L (.ref x :: st) ψ P) : JZ Z xs L0 y pc L (st) ψ P :=
  JZ_lift h fun X lv c d o hX hl K => J_aload_n hI (hl.2 _ _ hlk) (K lv hl)
theorem JZ_istore {i : Nat} {x : Int32} (hI : gI y pc = some (.istore i, n)) (hi : i < gLo y) (hn : j_n2 L i = true) (h : JZ Z xs L0 y (pc + 2) (L.set i (some (.int x))) (st) ψ P) : JZ Z xs L0 y pc L (.int x :: st) ψ P :=
  JZ_lift h fun X lv c d o hX hl K => J_istore hI hi (K _ (jQ_st1 hl hn rfl))
theorem JZ_istore_n {i : Fin 4} {x : Int32} (hI : gI y pc = some (.istore_n i, n)) (hi : (i : Nat) < gLo y) (hn : j_n2 L (i : Nat) = true) (h : JZ Z xs L0 y (pc + 1) (L.set (i : Nat) (some (.int x))) (st) ψ P) : JZ Z xs L0 y pc L (.int x :: st) ψ P :=
  JZ_lift h fun X lv c d o hX hl K => J_istore_n hI hi (K _ (jQ_st1 hl hn rfl))
theorem JZ_astore {i : Nat} {x : Nat} (hI : gI y pc = some (.astore i, n)) (hi : i < gLo y) (hn : j_n2 L i = true) (ha : x < 131) (h : JZ Z xs L0 y (pc + 2) (L.set i (some (.ref x))) (st) ψ P) : JZ Z xs L0 y pc L (.ref x :: st) ψ P :=
  JZ_lift h fun X lv c d o hX hl K => J_astore hI hi (K _ (jQ_st1 hl hn (decide_eq_true ha)))
theorem JZ_astore_n {i : Fin 4} {x : Nat} (hI : gI y pc = some (.astore_n i, n)) (hi : (i : Nat) < gLo y) (hn : j_n2 L (i : Nat) = true) (ha : x < 131) (h : JZ Z xs L0 y (pc + 1) (L.set (i : Nat) (some (.ref x))) (st) ψ P) : JZ Z xs L0 y pc L (.ref x :: st) ψ P :=
  JZ_lift h fun X lv c d o hX hl K => J_astore_n hI hi (K _ (jQ_st1 hl hn (decide_eq_true ha)))
theorem JZ_lstore {i : Nat} {x : Int64} (hI : gI y pc = some (.lstore i, n)) (hi : i + 1 < gLo y) (hn : j_n2 L i = true) (h : JZ Z xs L0 y (pc + 2) ((L.set (i + 1) none).set i (some (.long x))) (st) ψ P) : JZ Z xs L0 y pc L (.long x :: st) ψ P :=
  JZ_lift h fun X lv c d o hX hl K => J_lstore hI hi (K _ (jQ_st2 hl hn rfl))
theorem JZ_lstore_n {i : Fin 4} {x : Int64} (hI : gI y pc = some (.lstore_n i, n)) (hi : (i : Nat) + 1 < gLo y) (hn : j_n2 L (i : Nat) = true) (h : JZ Z xs L0 y (pc + 1) ((L.set ((i : Nat) + 1) none).set (i : Nat) (some (.long x))) (st) ψ P) : JZ Z xs L0 y pc L (.long x :: st) ψ P :=
  JZ_lift h fun X lv c d o hX hl K => J_lstore_n hI hi (K _ (jQ_st2 hl hn rfl))
theorem JZ_dstore {i : Nat} {x : UInt64} (hI : gI y pc = some (.dstore i, n)) (hi : i + 1 < gLo y) (hn : j_n2 L i = true) (h : JZ Z xs L0 y (pc + 2) ((L.set (i + 1) none).set i (some (.double x))) (st) ψ P) : JZ Z xs L0 y pc L (.double x :: st) ψ P :=
  JZ_lift h fun X lv c d o hX hl K => J_dstore hI hi (K _ (jQ_st2 hl hn rfl))
theorem JZ_dstore_n {i : Fin 4} {x : UInt64} (hI : gI y pc = some (.dstore_n i, n)) (hi : (i : Nat) + 1 < gLo y) (hn : j_n2 L (i : Nat) = true) (h : JZ Z xs L0 y (pc + 1) ((L.set ((i : Nat) + 1) none).set (i : Nat) (some (.double x))) (st) ψ P) : JZ Z xs L0 y pc L (.double x :: st) ψ P :=
  JZ_lift h fun X lv c d o hX hl K => J_dstore_n hI hi (K _ (jQ_st2 hl hn rfl))
theorem JZ_iinc {i : Nat} {v x : Int} (hI : gI y pc = some (.iinc i v, n)) (hlk : L[i]? = some (some (.int (jI x)))) (hi : i < gLo y) (hn : j_n2 L i = true) (h : JZ Z xs L0 y (pc + 3) (L.set i (some (.int (jI (x + v))))) (st) ψ P) : JZ Z xs L0 y pc L (st) ψ P :=
  JZ_lift h fun X lv c d o hX hl K => J_iinc hI (hl.2 _ _ hlk) hi (K _ (jQ_st1 hl hn rfl))
theorem JZ_ldc {ix j : Nat} {x : Int32} (hI : gI y pc = some (.ldc ix, n)) (hc : gCs y ix = some (.int x, j)) (h : JZ Z xs L0 y (pc + 2) L (.int x :: st) ψ P) : JZ Z xs L0 y pc L (st) ψ P :=
  JZ_lift h fun X lv c d o hX hl K => J_ldc hI hc (K lv hl)
theorem JZ_ldcw {ix j : Nat} {x : Int32} (hI : gI y pc = some (.ldc_w ix, n)) (hc : gCs y ix = some (.int x, j)) (h : JZ Z xs L0 y (pc + 3) L (.int x :: st) ψ P) : JZ Z xs L0 y pc L (st) ψ P :=
  JZ_lift h fun X lv c d o hX hl K => J_ldcw hI hc (K lv hl)
theorem JZ_isub32 {x1 x2 : Int32} (hI : gI y pc = some (.isub, n)) (h : JZ Z xs L0 y (pc + 1) L (.int (x1 - x2) :: st) ψ P) : JZ Z xs L0 y pc L (.int x2 :: .int x1 :: st) ψ P :=
  JZ_lift h fun X lv c d o hX hl K => J_isub32 hI (K lv hl)
theorem JZ_ldc2l {ix j : Nat} {x : Int64} (hI : gI y pc = some (.ldc2_w ix, n)) (hc : gCs y ix = some (.long x, j)) (h : JZ Z xs L0 y (pc + 3) L (.long x :: st) ψ P) : JZ Z xs L0 y pc L (st) ψ P :=
  JZ_lift h fun X lv c d o hX hl K => J_ldc2l hI hc (K lv hl)
theorem JZ_ldc2d {ix j : Nat} {x : UInt64} (hI : gI y pc = some (.ldc2_w ix, n)) (hc : gCs y ix = some (.double x, j)) (h : JZ Z xs L0 y (pc + 3) L (.double x :: st) ψ P) : JZ Z xs L0 y pc L (st) ψ P :=
  JZ_lift h fun X lv c d o hX hl K => J_ldc2d hI hc (K lv hl)
theorem JZ_iushr {x1 x2 : Int32} (hI : gI y pc = some (.iushr, n)) (h : JZ Z xs L0 y (pc + 1) L (.int (x1.toUInt32 >>> (x2.toUInt32 &&& Int32.toUInt32 31)).toInt32 :: st) ψ P) : JZ Z xs L0 y pc L (.int x2 :: .int x1 :: st) ψ P :=
  JZ_lift h fun X lv c d o hX hl K => J_iushr hI (K lv hl)
theorem JZ_dconst0  (hI : gI y pc = some (.dconst 0, n)) (h : JZ Z xs L0 y (pc + 1) L (.double FP.dconst0 :: st) ψ P) : JZ Z xs L0 y pc L (st) ψ P :=
  JZ_lift h fun X lv c d o hX hl K => J_dconst0 hI (K lv hl)
theorem JZ_dcmpl {x1 x2 : UInt64} (hI : gI y pc = some (.dcmp .l, n)) (h : JZ Z xs L0 y (pc + 1) L (.int (Op.cmpValue (FP.dcmp x1 x2) .l) :: st) ψ P) : JZ Z xs L0 y pc L (.double x2 :: .double x1 :: st) ψ P :=
  JZ_lift h fun X lv c d o hX hl K => J_dcmpl hI (K lv hl)
theorem JZ_ddiv {x1 x2 : UInt64} (hI : gI y pc = some (.ddiv, n)) (hn : FP.ddiv x1 x2 &&& 0x7fffffffffffffff ≤ 0x7ff0000000000000) (h : JZ Z xs L0 y (pc + 1) L (.double (FP.ddiv x1 x2) :: st) ψ P) : JZ Z xs L0 y pc L (.double x2 :: .double x1 :: st) ψ P :=
  JZ_lift h fun X lv c d o hX hl K => J_ddiv hI hn (K lv hl)
theorem JZ_dmul {x1 x2 : UInt64} (hI : gI y pc = some (.dmul, n)) (hn : FP.dmul x1 x2 &&& 0x7fffffffffffffff ≤ 0x7ff0000000000000) (h : JZ Z xs L0 y (pc + 1) L (.double (FP.dmul x1 x2) :: st) ψ P) : JZ Z xs L0 y pc L (.double x2 :: .double x1 :: st) ψ P :=
  JZ_lift h fun X lv c d o hX hl K => J_dmul hI hn (K lv hl)
theorem JZ_dsub {x1 x2 : UInt64} (hI : gI y pc = some (.dsub, n)) (hn : FP.dsub x1 x2 &&& 0x7fffffffffffffff ≤ 0x7ff0000000000000) (h : JZ Z xs L0 y (pc + 1) L (.double (FP.dsub x1 x2) :: st) ψ P) : JZ Z xs L0 y pc L (.double x2 :: .double x1 :: st) ψ P :=
  JZ_lift h fun X lv c d o hX hl K => J_dsub hI hn (K lv hl)
theorem JZ_idivI {x1 x2 : Int} (hI : gI y pc = some (.idiv, n)) (h0 : 0 ≤ x1) (h1 : x1 ≤ 2147483647) (h2 : 0 < x2) (h3 : x2 ≤ 2147483647) (h : JZ Z xs L0 y (pc + 1) L (.int (jI (x1 / x2)) :: st) ψ P) : JZ Z xs L0 y pc L (.int (jI x2) :: .int (jI x1) :: st) ψ P :=
  JZ_lift h fun X lv c d o hX hl K => J_idivI hI h0 h1 h2 h3 (K lv hl)
theorem JZ_iremI {x1 x2 : Int} (hI : gI y pc = some (.irem, n)) (h0 : 0 ≤ x1) (h1 : x1 ≤ 2147483647) (h2 : 0 < x2) (h3 : x2 ≤ 2147483647) (h : JZ Z xs L0 y (pc + 1) L (.int (jI (x1 % x2)) :: st) ψ P) : JZ Z xs L0 y pc L (.int (jI x2) :: .int (jI x1) :: st) ψ P :=
  JZ_lift h fun X lv c d o hX hl K => J_iremI hI h0 h1 h2 h3 (K lv hl)
theorem JZ_max {ix z na : Nat} {rs : Nat × Nat × Nat × Nat × Nat × Option String} {x1 x2 : Int} (hI : gI y pc = some (.invokestatic ix, n)) (hv : gIv y ix = some (z, na, 101, rs)) (hs : (st.map fun v => v.category).sum ≤ 8) (hf : 1 ≤ gF y ∧ 21 ≤ gW y) (r1 : -2147483648 ≤ x1 ∧ x1 ≤ 2147483647) (r2 : -2147483648 ≤ x2 ∧ x2 ≤ 2147483647) (h : JZ Z xs L0 y (pc + 3) L (.int (jI (if x1 < x2 then x2 else x1)) :: st) ψ P) : JZ Z xs L0 y pc L (.int (jI x2) :: .int (jI x1) :: st) ψ P :=
  JZ_lift h fun X lv c d o hX hl K => J_max hI hv hs hf r1 r2 (K lv hl)
theorem JZ_min {ix z na : Nat} {rs : Nat × Nat × Nat × Nat × Nat × Option String} {x1 x2 : Int} (hI : gI y pc = some (.invokestatic ix, n)) (hv : gIv y ix = some (z, na, 102, rs)) (hs : (st.map fun v => v.category).sum ≤ 8) (hf : 1 ≤ gF y ∧ 21 ≤ gW y) (r1 : -2147483648 ≤ x1 ∧ x1 ≤ 2147483647) (r2 : -2147483648 ≤ x2 ∧ x2 ≤ 2147483647) (h : JZ Z xs L0 y (pc + 3) L (.int (jI (if x2 < x1 then x2 else x1)) :: st) ψ P) : JZ Z xs L0 y pc L (.int (jI x2) :: .int (jI x1) :: st) ψ P :=
  JZ_lift h fun X lv c d o hX hl K => J_min hI hv hs hf r1 r2 (K lv hl)
theorem JZ_abs {ix z na : Nat} {rs : Nat × Nat × Nat × Nat × Nat × Option String} {x : Int} (hI : gI y pc = some (.invokestatic ix, n)) (hv : gIv y ix = some (z, na, 103, rs)) (hs : (st.map fun v => v.category).sum ≤ 8) (hf : 1 ≤ gF y ∧ 21 ≤ gW y) (r1 : -2147483647 ≤ x ∧ x ≤ 2147483647) (h : JZ Z xs L0 y (pc + 3) L (.int (jI (if 0 ≤ x then x else -x)) :: st) ψ P) : JZ Z xs L0 y pc L (.int (jI x) :: st) ψ P :=
  JZ_lift h fun X lv c d o hX hl K => J_abs hI hv hs hf r1 (K lv hl)
theorem JZ_absd {ix z na : Nat} {rs : Nat × Nat × Nat × Nat × Nat × Option String} {x : UInt64} (hI : gI y pc = some (.invokestatic ix, n)) (hv : gIv y ix = some (z, na, 107, rs)) (hs : (st.map fun v => v.category).sum ≤ 8) (hf : 1 ≤ gF y ∧ 21 ≤ gW y) (hn : x &&& 0x7fffffffffffffff ≤ 0x7ff0000000000000) (h : JZ Z xs L0 y (pc + 3) L (.double (x &&& 0x7fffffffffffffff) :: st) ψ P) : JZ Z xs L0 y pc L (.double x :: st) ψ P :=
  JZ_lift h fun X lv c d o hX hl K => J_absd hI hv hs hf hn (K lv hl)
theorem JZ_sld {x : Int} (hI : gI y pc = some (.iaload, n)) (h0 : 0 ≤ x) (h1 : x < (L0 : Int)) (hn : L0 ≤ 65536) (h : JZ Z xs L0 y (pc + 1) L (.int (xs x.toNat) :: st) ψ P) : JZ Z xs L0 y pc L (.int (jI x) :: .ref 0 :: st) ψ P :=
  JZ_lift h fun X lv c d o hX hl K => J_sld hI h0 h1 hn (K lv hl)
theorem JZ_slen  (hI : gI y pc = some (.arraylength, n)) (h : JZ Z xs L0 y (pc + 1) L (.int (jI (L0 : Int)) :: st) ψ P) : JZ Z xs L0 y pc L (.ref 0 :: st) ψ P :=
  JZ_lift h fun X lv c d o hX hl K => J_slen hI (K lv hl)
theorem JZ_goto {off : Int} {tg : Nat} (hI : gI y pc = some (.goto off, n)) (ht : g_tg pc off = some tg) (h : JZ Z xs L0 y tg L st ψ P) : JZ Z xs L0 y pc L st ψ P :=
  JZ_lift h fun X lv c d o hX hl K => J_goto hI ht (K lv hl)
theorem JZ_tsw {df lo hi : Int} {offs : Array Int} {x : Int} {tg : Nat} (hI : gI y pc = some (.tableswitch df lo hi offs, n)) (r : -2147483648 ≤ x ∧ x ≤ 2147483647) (ht : (if x < lo ∨ hi < x then g_tg pc df else (offs[(x - lo).toNat]?).bind (g_tg pc)) = some tg) (h : JZ Z xs L0 y tg L st ψ P) : JZ Z xs L0 y pc L (.int (jI x) :: st) ψ P :=
  JZ_lift h fun X lv c d o hX hl K => J_tsw hI r ht (K lv hl)
theorem JZ_iceq {off : Int} {tg : Nat} {x1 x2 : Int} (hI : gI y pc = some (.if_icmp .eq off, n)) (ht : g_tg pc off = some tg) (r1 : -2147483648 ≤ x1 ∧ x1 ≤ 2147483647) (r2 : -2147483648 ≤ x2 ∧ x2 ≤ 2147483647) (hT : x1 = x2 → JZ Z xs L0 y tg L st ψ P) (hF : ¬ x1 = x2 → JZ Z xs L0 y (pc + 3) L st ψ P) : JZ Z xs L0 y pc L (.int (jI x2) :: .int (jI x1) :: st) ψ P := by
  by_cases q : x1 = x2
  · exact JZ_lift (hT q) fun X lv c d o hX hl K => J_iceq hI ht r1 r2 (fun _ => K lv hl) (fun z => absurd z (by omega))
  · exact JZ_lift (hF (q)) fun X lv c d o hX hl K => J_iceq hI ht r1 r2 (fun z => absurd z q) (fun _ => K lv hl)
theorem JZ_ifeq {off : Int} {tg : Nat} {x : Int} (hI : gI y pc = some (.ifCond .eq off, n)) (ht : g_tg pc off = some tg) (r : -2147483648 ≤ x ∧ x ≤ 2147483647) (hT : x = 0 → JZ Z xs L0 y tg L st ψ P) (hF : ¬ x = 0 → JZ Z xs L0 y (pc + 3) L st ψ P) : JZ Z xs L0 y pc L (.int (jI x) :: st) ψ P := by
  by_cases q : x = 0
  · exact JZ_lift (hT q) fun X lv c d o hX hl K => J_ifeq hI ht r (fun _ => K lv hl) (fun z => absurd z (by omega))
  · exact JZ_lift (hF (q)) fun X lv c d o hX hl K => J_ifeq hI ht r (fun z => absurd z q) (fun _ => K lv hl)
theorem JZ_icne {off : Int} {tg : Nat} {x1 x2 : Int} (hI : gI y pc = some (.if_icmp .ne off, n)) (ht : g_tg pc off = some tg) (r1 : -2147483648 ≤ x1 ∧ x1 ≤ 2147483647) (r2 : -2147483648 ≤ x2 ∧ x2 ≤ 2147483647) (hT : ¬ x1 = x2 → JZ Z xs L0 y tg L st ψ P) (hF : x1 = x2 → JZ Z xs L0 y (pc + 3) L st ψ P) : JZ Z xs L0 y pc L (.int (jI x2) :: .int (jI x1) :: st) ψ P := by
  by_cases q : ¬ x1 = x2
  · exact JZ_lift (hT q) fun X lv c d o hX hl K => J_icne hI ht r1 r2 (fun _ => K lv hl) (fun z => absurd z (by omega))
  · exact JZ_lift (hF (Classical.not_not.mp q)) fun X lv c d o hX hl K => J_icne hI ht r1 r2 (fun z => absurd z q) (fun _ => K lv hl)
theorem JZ_ifne {off : Int} {tg : Nat} {x : Int} (hI : gI y pc = some (.ifCond .ne off, n)) (ht : g_tg pc off = some tg) (r : -2147483648 ≤ x ∧ x ≤ 2147483647) (hT : ¬ x = 0 → JZ Z xs L0 y tg L st ψ P) (hF : x = 0 → JZ Z xs L0 y (pc + 3) L st ψ P) : JZ Z xs L0 y pc L (.int (jI x) :: st) ψ P := by
  by_cases q : ¬ x = 0
  · exact JZ_lift (hT q) fun X lv c d o hX hl K => J_ifne hI ht r (fun _ => K lv hl) (fun z => absurd z (by omega))
  · exact JZ_lift (hF (Classical.not_not.mp q)) fun X lv c d o hX hl K => J_ifne hI ht r (fun z => absurd z q) (fun _ => K lv hl)
theorem JZ_iclt {off : Int} {tg : Nat} {x1 x2 : Int} (hI : gI y pc = some (.if_icmp .lt off, n)) (ht : g_tg pc off = some tg) (r1 : -2147483648 ≤ x1 ∧ x1 ≤ 2147483647) (r2 : -2147483648 ≤ x2 ∧ x2 ≤ 2147483647) (hT : x1 < x2 → JZ Z xs L0 y tg L st ψ P) (hF : x2 ≤ x1 → JZ Z xs L0 y (pc + 3) L st ψ P) : JZ Z xs L0 y pc L (.int (jI x2) :: .int (jI x1) :: st) ψ P := by
  by_cases q : x1 < x2
  · exact JZ_lift (hT q) fun X lv c d o hX hl K => J_iclt hI ht r1 r2 (fun _ => K lv hl) (fun z => absurd z (by omega))
  · exact JZ_lift (hF (Int.not_lt.mp q)) fun X lv c d o hX hl K => J_iclt hI ht r1 r2 (fun z => absurd z q) (fun _ => K lv hl)
theorem JZ_iflt {off : Int} {tg : Nat} {x : Int} (hI : gI y pc = some (.ifCond .lt off, n)) (ht : g_tg pc off = some tg) (r : -2147483648 ≤ x ∧ x ≤ 2147483647) (hT : x < 0 → JZ Z xs L0 y tg L st ψ P) (hF : 0 ≤ x → JZ Z xs L0 y (pc + 3) L st ψ P) : JZ Z xs L0 y pc L (.int (jI x) :: st) ψ P := by
  by_cases q : x < 0
  · exact JZ_lift (hT q) fun X lv c d o hX hl K => J_iflt hI ht r (fun _ => K lv hl) (fun z => absurd z (by omega))
  · exact JZ_lift (hF (Int.not_lt.mp q)) fun X lv c d o hX hl K => J_iflt hI ht r (fun z => absurd z q) (fun _ => K lv hl)
theorem JZ_icge {off : Int} {tg : Nat} {x1 x2 : Int} (hI : gI y pc = some (.if_icmp .ge off, n)) (ht : g_tg pc off = some tg) (r1 : -2147483648 ≤ x1 ∧ x1 ≤ 2147483647) (r2 : -2147483648 ≤ x2 ∧ x2 ≤ 2147483647) (hT : x2 ≤ x1 → JZ Z xs L0 y tg L st ψ P) (hF : x1 < x2 → JZ Z xs L0 y (pc + 3) L st ψ P) : JZ Z xs L0 y pc L (.int (jI x2) :: .int (jI x1) :: st) ψ P := by
  by_cases q : x2 ≤ x1
  · exact JZ_lift (hT q) fun X lv c d o hX hl K => J_icge hI ht r1 r2 (fun _ => K lv hl) (fun z => absurd z (by omega))
  · exact JZ_lift (hF (Int.not_le.mp q)) fun X lv c d o hX hl K => J_icge hI ht r1 r2 (fun z => absurd z q) (fun _ => K lv hl)
theorem JZ_ifge {off : Int} {tg : Nat} {x : Int} (hI : gI y pc = some (.ifCond .ge off, n)) (ht : g_tg pc off = some tg) (r : -2147483648 ≤ x ∧ x ≤ 2147483647) (hT : 0 ≤ x → JZ Z xs L0 y tg L st ψ P) (hF : x < 0 → JZ Z xs L0 y (pc + 3) L st ψ P) : JZ Z xs L0 y pc L (.int (jI x) :: st) ψ P := by
  by_cases q : 0 ≤ x
  · exact JZ_lift (hT q) fun X lv c d o hX hl K => J_ifge hI ht r (fun _ => K lv hl) (fun z => absurd z (by omega))
  · exact JZ_lift (hF (Int.not_le.mp q)) fun X lv c d o hX hl K => J_ifge hI ht r (fun z => absurd z q) (fun _ => K lv hl)
theorem JZ_icgt {off : Int} {tg : Nat} {x1 x2 : Int} (hI : gI y pc = some (.if_icmp .gt off, n)) (ht : g_tg pc off = some tg) (r1 : -2147483648 ≤ x1 ∧ x1 ≤ 2147483647) (r2 : -2147483648 ≤ x2 ∧ x2 ≤ 2147483647) (hT : x2 < x1 → JZ Z xs L0 y tg L st ψ P) (hF : x1 ≤ x2 → JZ Z xs L0 y (pc + 3) L st ψ P) : JZ Z xs L0 y pc L (.int (jI x2) :: .int (jI x1) :: st) ψ P := by
  by_cases q : x2 < x1
  · exact JZ_lift (hT q) fun X lv c d o hX hl K => J_icgt hI ht r1 r2 (fun _ => K lv hl) (fun z => absurd z (by omega))
  · exact JZ_lift (hF (Int.not_lt.mp q)) fun X lv c d o hX hl K => J_icgt hI ht r1 r2 (fun z => absurd z q) (fun _ => K lv hl)
theorem JZ_ifgt {off : Int} {tg : Nat} {x : Int} (hI : gI y pc = some (.ifCond .gt off, n)) (ht : g_tg pc off = some tg) (r : -2147483648 ≤ x ∧ x ≤ 2147483647) (hT : 0 < x → JZ Z xs L0 y tg L st ψ P) (hF : x ≤ 0 → JZ Z xs L0 y (pc + 3) L st ψ P) : JZ Z xs L0 y pc L (.int (jI x) :: st) ψ P := by
  by_cases q : 0 < x
  · exact JZ_lift (hT q) fun X lv c d o hX hl K => J_ifgt hI ht r (fun _ => K lv hl) (fun z => absurd z (by omega))
  · exact JZ_lift (hF (Int.not_lt.mp q)) fun X lv c d o hX hl K => J_ifgt hI ht r (fun z => absurd z q) (fun _ => K lv hl)
theorem JZ_icle {off : Int} {tg : Nat} {x1 x2 : Int} (hI : gI y pc = some (.if_icmp .le off, n)) (ht : g_tg pc off = some tg) (r1 : -2147483648 ≤ x1 ∧ x1 ≤ 2147483647) (r2 : -2147483648 ≤ x2 ∧ x2 ≤ 2147483647) (hT : x1 ≤ x2 → JZ Z xs L0 y tg L st ψ P) (hF : x2 < x1 → JZ Z xs L0 y (pc + 3) L st ψ P) : JZ Z xs L0 y pc L (.int (jI x2) :: .int (jI x1) :: st) ψ P := by
  by_cases q : x1 ≤ x2
  · exact JZ_lift (hT q) fun X lv c d o hX hl K => J_icle hI ht r1 r2 (fun _ => K lv hl) (fun z => absurd z (by omega))
  · exact JZ_lift (hF (Int.not_le.mp q)) fun X lv c d o hX hl K => J_icle hI ht r1 r2 (fun z => absurd z q) (fun _ => K lv hl)
theorem JZ_ifle {off : Int} {tg : Nat} {x : Int} (hI : gI y pc = some (.ifCond .le off, n)) (ht : g_tg pc off = some tg) (r : -2147483648 ≤ x ∧ x ≤ 2147483647) (hT : x ≤ 0 → JZ Z xs L0 y tg L st ψ P) (hF : 0 < x → JZ Z xs L0 y (pc + 3) L st ψ P) : JZ Z xs L0 y pc L (.int (jI x) :: st) ψ P := by
  by_cases q : x ≤ 0
  · exact JZ_lift (hT q) fun X lv c d o hX hl K => J_ifle hI ht r (fun _ => K lv hl) (fun z => absurd z (by omega))
  · exact JZ_lift (hF (Int.not_le.mp q)) fun X lv c d o hX hl K => J_ifle hI ht r (fun z => absurd z q) (fun _ => K lv hl)
theorem JZ_gI {ix ci k a key : Nat} {q : Nat × Option String × String} {tm : List (Option Nat)} (hI : gI y pc = some (.getfield ix, n)) (hf : gFld y ix = some (ci, k, q)) (hk : jSk.getD a none = some (.inl (ci, tm))) (ht : tm[k]? = some none) (he : 20 * ci + k = key) (h : JZ Z xs L0 y (pc + 3) L (.int (jI (ψ a key)) :: st) ψ P) : JZ Z xs L0 y pc L (.ref a :: st) ψ P :=
  JZ_lift h fun X lv c d o hX hl K => J_gI hI hf hX hk ht he (K lv hl)
theorem JZ_gR {ix ci k a r : Nat} {q : Nat × Option String × String} {tm : List (Option Nat)} (hI : gI y pc = some (.getfield ix, n)) (hf : gFld y ix = some (ci, k, q)) (hk : jSk.getD a none = some (.inl (ci, tm))) (ht : tm[k]? = some (some r)) (h : JZ Z xs L0 y (pc + 3) L (.ref r :: st) ψ P) : JZ Z xs L0 y pc L (.ref a :: st) ψ P :=
  JZ_lift h fun X lv c d o hX hl K => J_gR hI hf hX hk ht (K lv hl)
theorem JZ_aald {a tag nn s : Nat} {x : Int} (hI : gI y pc = some (.aaload, n)) (hk : jRow a tag nn s) (ho : g_obj tag = true) (h0 : 0 ≤ x) (h1 : x < (nn : Int)) (hn : nn ≤ 1000) (h : JZ Z xs L0 y (pc + 1) L (.ref (a + 1 + s * x.toNat) :: st) ψ P) : JZ Z xs L0 y pc L (.int (jI x) :: .ref a :: st) ψ P :=
  JZ_lift h fun X lv c d o hX hl K => J_aald hI hX hk ho h0 h1 hn (K lv hl)
theorem JZ_minz {ix z0 na : Nat} {rs : Nat × Nat × Nat × Nat × Nat × Option String} {x1 x2 : Int} (hI : gI y pc = some (.invokestatic ix, n)) (hv : gIv y ix = some (z0, na, 102, rs)) (hs : (st.map fun v => v.category).sum ≤ 8) (hf : 1 ≤ gF y ∧ 21 ≤ gW y) (r1 : -2147483648 ≤ x1 ∧ x1 ≤ 2147483647) (r2 : -2147483648 ≤ x2 ∧ x2 ≤ 2147483647) (h : ∀ z : Int, z ≤ x1 ∧ z ≤ x2 ∧ (z = x1 ∨ z = x2) → JZ Z xs L0 y (pc + 3) L (.int (jI z) :: st) ψ P) : JZ Z xs L0 y pc L (.int (jI x2) :: .int (jI x1) :: st) ψ P :=
  JZ_min hI hv hs hf r1 r2 (h _ (by split <;> omega))
theorem JZ_maxz {ix z0 na : Nat} {rs : Nat × Nat × Nat × Nat × Nat × Option String} {x1 x2 : Int} (hI : gI y pc = some (.invokestatic ix, n)) (hv : gIv y ix = some (z0, na, 101, rs)) (hs : (st.map fun v => v.category).sum ≤ 8) (hf : 1 ≤ gF y ∧ 21 ≤ gW y) (r1 : -2147483648 ≤ x1 ∧ x1 ≤ 2147483647) (r2 : -2147483648 ≤ x2 ∧ x2 ≤ 2147483647) (h : ∀ z : Int, x1 ≤ z ∧ x2 ≤ z ∧ (z = x1 ∨ z = x2) → JZ Z xs L0 y (pc + 3) L (.int (jI z) :: st) ψ P) : JZ Z xs L0 y pc L (.int (jI x2) :: .int (jI x1) :: st) ψ P :=
  JZ_max hI hv hs hf r1 r2 (h _ (by split <;> omega))
theorem JZ_absz {ix z0 na : Nat} {rs : Nat × Nat × Nat × Nat × Nat × Option String} {x : Int} (hI : gI y pc = some (.invokestatic ix, n)) (hv : gIv y ix = some (z0, na, 103, rs)) (hs : (st.map fun v => v.category).sum ≤ 8) (hf : 1 ≤ gF y ∧ 21 ≤ gW y) (r1 : -2147483647 ≤ x ∧ x ≤ 2147483647) (h : ∀ z : Int, 0 ≤ z ∧ (z = x ∨ z = -x) → JZ Z xs L0 y (pc + 3) L (.int (jI z) :: st) ψ P) : JZ Z xs L0 y pc L (.int (jI x) :: st) ψ P :=
  JZ_abs hI hv hs hf r1 (h _ (by split <;> omega))
/-- every number is a small one -/
def jG (ψ : jSt) : Prop := ∀ a k, -60000 ≤ ψ a k ∧ ψ a k ≤ 60000
theorem jG_up {ψ : jSt} {a k : Nat} {v : Int} (h : jG ψ) (h1 : -60000 ≤ v) (h2 : v ≤ 60000) : jG (jU ψ a k v) := fun a' k' => by
  unfold jU
  split
  · exact ⟨h1, h2⟩
  · exact h a' k'
/-- a field is read: with its bounds -/
theorem JZ_gB {ix ci k a key : Nat} {q : Nat × Option String × String} {tm : List (Option Nat)} (hI : gI y pc = some (.getfield ix, n)) (hf : gFld y ix = some (ci, k, q)) (hk : jSk.getD a none = some (.inl (ci, tm))) (ht : tm[k]? = some none) (he : 20 * ci + k = key) (hG : jG ψ) (h : -60000 ≤ ψ a key → ψ a key ≤ 60000 → JZ Z xs L0 y (pc + 3) L (.int (jI (ψ a key)) :: st) ψ P) : JZ Z xs L0 y pc L (.ref a :: st) ψ P :=
  JZ_gI hI hf hk ht he (h (hG a key).1 (hG a key).2)
theorem JZ_pI {ix ci k a j key : Nat} {host : Option String} {ref : String} {tm : List (Option Nat)} {v : Int} (hI : gI y pc = some (.putfield ix, n)) (hf : gFld y ix = some (ci, k, j, host, ref)) (hk : jSk.getD a none = some (.inl (ci, tm))) (ht : tm[k]? = some none) (he : 20 * ci + k = key) (hp : g_ft ci k = .int ∨ (g_ft ci k = .boolean ∧ (v = 0 ∨ v = 1))) (hpf : g_pf y ci k host = true) (h : JZ Z xs L0 y (pc + 3) L st (jU ψ a key v) P) : JZ Z xs L0 y pc L (.int (jI v) :: .ref a :: st) ψ P :=
  JZ_lift h fun X lv c d o hX hl K => J_pI hI hf hX hk ht he (jput hp) hpf (K lv hl)
theorem JZ_pB {ix ci k a j key : Nat} {host : Option String} {ref : String} {tm : List (Option Nat)} {v : Int} (hI : gI y pc = some (.putfield ix, n)) (hf : gFld y ix = some (ci, k, j, host, ref)) (hk : jSk.getD a none = some (.inl (ci, tm))) (ht : tm[k]? = some none) (he : 20 * ci + k = key) (hp : g_ft ci k = .int ∨ (g_ft ci k = .boolean ∧ (v = 0 ∨ v = 1))) (hpf : g_pf y ci k host = true) (hG : jG ψ) (hv : -60000 ≤ v ∧ v ≤ 60000) (h : jG (jU ψ a key v) → JZ Z xs L0 y (pc + 3) L st (jU ψ a key v) P) : JZ Z xs L0 y pc L (.int (jI v) :: .ref a :: st) ψ P :=
  JZ_pI hI hf hk ht he hp hpf (h (jG_up hG hv.1 hv.2))
theorem JZ_ends {v : Option Value} {x : Option Value} (hP : P (.inl v) ψ) (hZ : ∀ X Y, Z X Y → Z X X) (h : ∀ (X : gM) (lv : gL) (c d : Nat), g_R xs L0 y pc lv st (jM ψ X) c d (.inl v, jM ψ X, c, d)) : JZ Z xs L0 y pc L st ψ P :=
  ⟨.inl v, ψ, hP, fun X hX hY => ⟨X, by obtain ⟨Y, hY⟩ := hY; exact hZ X Y hY, fun lv c d hl => h X lv c d⟩⟩
theorem J_zret2 {M : gM} {c d : Nat} {lv : gL} {v : Int} (hI : gI y pc = some (.ireturn, n)) (hR : gR y = some .boolean) (hv : v = 0 ∨ v = 1) : g_R xs L0 y pc lv [.int (jI v)] M c d (.inl (some (.int (jI v))), M, c, d) := by
  rcases hv with rfl | rfl
  · exact J_zret (b := false) hI hR
  · exact J_zret (b := true) hI hR
end JZS
section JZE
variable {xs : Nat → Int32} {L0 y pc n : Nat} {L : List (Option Value)} {st : List Value} {ψ : jSt} {P : jO → jSt → Prop}
theorem JZ_iret {Q : Int → jSt → Prop} {v : Int} (hI : gI y pc = some (.ireturn, n)) (hR : gR y = some .int) (hP : Q v ψ) : JZ Eq xs L0 y pc L [.int (jI v)] ψ (oI Q) :=
  ⟨_, ψ, ⟨v, rfl, hP⟩, fun X hX _ => ⟨X, rfl, fun lv c d hl => J_iret hI hR⟩⟩
theorem JZ_zret {Q : Int → jSt → Prop} {v : Int} (hI : gI y pc = some (.ireturn, n)) (hR : gR y = some .boolean) (hv : v = 0 ∨ v = 1) (hP : Q v ψ) : JZ Eq xs L0 y pc L [.int (jI v)] ψ (oI Q) :=
  ⟨_, ψ, ⟨v, rfl, hP⟩, fun X hX _ => ⟨X, rfl, fun lv c d hl => J_zret2 hI hR hv⟩⟩
theorem JZ_lret {Q : Int64 → jSt → Prop} {v : Int64} (hI : gI y pc = some (.lreturn, n)) (hR : gR y = some .long) (hP : Q v ψ) : JZ Eq xs L0 y pc L [.long v] ψ (oL Q) :=
  ⟨_, ψ, ⟨v, rfl, hP⟩, fun X hX _ => ⟨X, rfl, fun lv c d hl => J_lret hI hR⟩⟩
theorem JZ_dret {Q : UInt64 → jSt → Prop} {v : UInt64} (hI : gI y pc = some (.dreturn, n)) (hR : gR y = some .double) (hP : Q v ψ) : JZ Eq xs L0 y pc L [.double v] ψ (oD Q) :=
  ⟨_, ψ, ⟨v, rfl, hP⟩, fun X hX _ => ⟨X, rfl, fun lv c d hl => J_dret hI hR⟩⟩
theorem JZ_aret {Q : Nat → jSt → Prop} {v : Nat} {ty : FieldType} (hI : gI y pc = some (.areturn, n)) (hR : gR y = some ty) (ht : g_isRef ty = true) (hP : Q v ψ) : JZ Eq xs L0 y pc L [.ref v] ψ (oR Q) :=
  ⟨_, ψ, ⟨v, rfl, hP⟩, fun X hX _ => ⟨X, rfl, fun lv c d hl => J_aret hI hR ht⟩⟩
theorem JZ_vret {Q : jSt → Prop} (hI : gI y pc = some (.return_, n)) (hR : gR y = none) (hP : Q ψ) : JZ Eq xs L0 y pc L [] ψ (oV Q) :=
  ⟨_, ψ, ⟨rfl, hP⟩, fun X hX _ => ⟨X, rfl, fun lv c d hl => J_vret hI hR⟩⟩
theorem JZ_thr {Q : jSt → Prop} {E : String} {v : Nat × Nat × Nat × String × Bool} (hT : gThr y pc = some (E, v)) (hc : 6 ≤ gF y ∧ 98 ≤ gW y ∧ gH y = []) (hP : Q ψ) : JZ Eq xs L0 y pc L [] ψ (oX E Q) :=
  ⟨.inr E, ψ, ⟨rfl, hP⟩, fun X hX _ => ⟨X, rfl, fun lv c d hl => g_R_thr hT ⟨Nat.zero_le _, hc⟩⟩⟩
end JZE
/-! calls -/
theorem jA_look : ∀ (as : List Value) (k i : Nat) (v : Value), as.all (fun v => v.category == 1) = true → as[i]? = some v → (lv_args k as).lookup (k + i) = some v
  | [], _, _, _, _, h => by cases h
  | a :: as, k, 0, v, _, h => by
    have e : a = v := Option.some.inj h
    subst e
    show List.lookup (k + 0) ((k, a) :: _) = some a
    rw [List.lookup_cons, Nat.add_zero]
    simp
  | a :: as, k, i + 1, v, hc, h => by
    simp only [List.all_cons, Bool.and_eq_true, beq_iff_eq] at hc
    have h1 : as[i]? = some v := h
    have ih := jA_look as (k + 1) i v hc.2 h1
    show List.lookup (k + (i + 1)) ((k, a) :: lv_args (if a.category = 2 then k + 2 else k + 1) as) = some v
    have e : (k + (i + 1) == k) = false := beq_eq_false_iff_ne.mpr (by omega)
    rw [List.lookup_cons, e, if_neg (by rw [hc.1]; decide)]
    rw [show k + 1 + i = k + (i + 1) by omega] at ih
    exact ih
theorem jA_ok (m : Nat) : ∀ (as : List Value) (k : Nat), as.all (g_ok m) = true → (lv_args k as).all (fun q => g_ok m q.2) = true
  | [], _, _ => rfl
  | a :: as, k, h => by
    simp only [List.all_cons, Bool.and_eq_true] at h
    show ((k, a) :: lv_args (if a.category = 2 then k + 2 else k + 1) as).all (fun q => g_ok m q.2) = true
    rw [List.all_cons, h.1, jA_ok m as _ h.2]
    rfl
theorem jQ_args {m : Nat} {as : List Value} {j : Nat} (hc : as.all (fun v => v.category == 1) = true) (hk : as.all (g_ok m) = true) : jQ m (as.map some ++ List.replicate j none) (lv_args 0 as) :=
  ⟨jA_ok m as 0 hk, fun i v h => by
    have h1 : as[i]? = some v := by
      rcases Nat.lt_or_ge i as.length with hi | hi
      · rw [List.getElem?_append_left (by rw [List.length_map]; exact hi), List.getElem?_map] at h
        cases hq : as[i]? with
        | none => rw [hq] at h; cases h
        | some w => rw [hq] at h; cases h; rfl
      · rw [List.getElem?_append_right (by rw [List.length_map]; exact hi), List.getElem?_replicate] at h
        split at h <;> cases h
    have h2 := jA_look as 0 i v hc h1
    rw [Nat.zero_add] at h2
    exact h2⟩
theorem j_okm {m m' : Nat} (hm : m ≤ m') {l : List Value} (h : l.all (g_ok m) = true) : l.all (g_ok m') = true := List.all_eq_true.mpr fun q hq1 => g_ok_mono hm (List.all_eq_true.mp h q hq1)
section JCL
variable {Z : gM → gM → Prop} {xs : Nat → Int32} {L0 y pc n : Nat} {L : List (Option Value)} {ψ : jSt} {P : jO → jSt → Prop}
/-- a call on an object, args the arguments as they lie on the stack -/
theorem JZ_inv {ix z na kd ci a md j : Nat} {rs : Nat × Nat × Nat × Nat × Option String} {args rest : List Value} {i : Instr} {tm : List (Option Nat)} {Q : jO → jSt → Prop} (hI : gI y pc = some (i, n)) (hret : ∀ st, g_ret y i st = none) (hnw : j_new i = false) (hx : g_ivx i = some (md, ix)) (hmd2 : md = 1 ∨ md = 2) (hiv : gIv y ix = some (z, na, kd, ci, rs)) (hk : j_ivc y z na kd md = true) (hna : args.length = na) (hcat : args.all (fun v => v.category == 1) = true) (hrest : (rest.map fun v => v.category).sum ≤ 8)
    (hcell : jSk.getD a none = some (.inl (ci, tm))) (hargs : args.all (g_ok 131) = true) (hr : rest.all (g_ok 131) = true)
    (hz : JZ Eq xs L0 z 0 ((.ref a :: args.reverse).map some ++ List.replicate j none) [] ψ Q)
    (h : ∀ o ψ', Q o ψ' → (∃ v, o = .inl v ∧ JZ Z xs L0 y (pc + 3) L (v.toList ++ rest) ψ' P) ∨ (∃ E, o = .inr E ∧ g_find y pc E (gH y) = some none ∧ (∀ X Y, Z X Y → Z X X) ∧ P (.inr E) ψ')) : JZ Z xs L0 y pc L (args ++ .ref a :: rest) ψ P := by
  obtain ⟨o, ψ', hQ, hr1⟩ := hz
  have ha := jSk_lt hcell
  have hinv : ∀ (X : gM) (lv : gL), 131 ≤ X.1 → jQ 131 L lv → g_inv y i (args ++ .ref a :: rest) lv (jM ψ X) = some (z, .ref a :: args.reverse, rest) := fun X lv hX hl => J_inv (M := jM ψ X) (lv := lv) (a := a) hx (by rcases hmd2 with rfl | rfl <;> decide) hiv hk hna hcat hrest (fun _ => by
    unfold g_rcv
    rw [jM_rd hX hcell]
    show decide (ci = ci) = true
    exact decide_eq_true rfl) hmd2 (j_ok_mono hX hl.1) (j_okm hX hargs) (by show a < X.1; omega) (j_okm hX hr)
  have hq : jQ 131 ((.ref a :: args.reverse).map some ++ List.replicate j none) (lv_args 0 (.ref a :: args.reverse)) := jQ_args (by simp only [List.all_cons, List.all_reverse]; rw [hcat]; rfl) (by simp only [List.all_cons, List.all_reverse]; rw [hargs]; simp [g_ok]; omega)
  rcases h o ψ' hQ with ⟨v, rfl, w, ψ2, hP, hr2⟩ | ⟨E, rfl, hf, hZ, hP⟩
  · refine ⟨w, ψ2, hP, fun X hX hY => ?_⟩
    obtain ⟨X1, e1, hr1⟩ := hr1 X hX ⟨X, rfl⟩
    subst e1
    obtain ⟨X2, e2, hr2⟩ := hr2 X hX hY
    exact ⟨X2, e2, fun lv c d hl => g_R_cal (j_thr hI hnw) hI (hret _) (hinv X lv hX hl) (hr1 _ 0 0 hq) (hr2 lv c d hl)⟩
  · refine ⟨_, ψ', hP, fun X hX hY => ?_⟩
    obtain ⟨X1, e1, hr1⟩ := hr1 X hX ⟨X, rfl⟩
    subst e1
    obtain ⟨Y, hY⟩ := hY
    exact ⟨X, hZ X Y hY, fun lv c d hl => by
      have h9 := g_R_calO (c := c) (d := d) (j_thr hI hnw) hI (hret _) (hinv X lv hX hl) (hr1 _ 0 0 hq) hf
      simp only [jxc, Nat.zero_add] at h9
      exact h9⟩
/-- a call of a static method -/
theorem JZ_invS {ix z na kd ci j : Nat} {rs : Nat × Nat × Nat × Nat × Option String} {args rest : List Value} {Q : jO → jSt → Prop} (hI : gI y pc = some (.invokestatic ix, n)) (hiv : gIv y ix = some (z, na, kd, ci, rs)) (hk : j_ivc y z na kd 0 = true) (hna : args.length = na) (hcat : args.all (fun v => v.category == 1) = true) (hrest : (rest.map fun v => v.category).sum ≤ 8)
    (hargs : args.all (g_ok 131) = true) (hr : rest.all (g_ok 131) = true)
    (hz : JZ Eq xs L0 z 0 (args.reverse.map some ++ List.replicate j none) [] ψ Q)
    (h : ∀ o ψ', Q o ψ' → ∃ v, o = .inl v ∧ JZ Z xs L0 y (pc + 3) L (v.toList ++ rest) ψ' P) : JZ Z xs L0 y pc L (args ++ rest) ψ P := by
  obtain ⟨o, ψ', hQ, hr1⟩ := hz
  have hinv : ∀ (X : gM) (lv : gL), 131 ≤ X.1 → jQ 131 L lv → g_inv y (.invokestatic ix) (args ++ rest) lv (jM ψ X) = some (z, args.reverse, rest) := fun X lv hX hl => J_invS (M := jM ψ X) (lv := lv) hiv hk hna hcat hrest (j_ok_mono hX hl.1) (j_okm hX hargs) (j_okm hX hr)
  have hq : jQ 131 (args.reverse.map some ++ List.replicate j none) (lv_args 0 args.reverse) := jQ_args (by rw [List.all_reverse]; exact hcat) (by rw [List.all_reverse]; exact hargs)
  obtain ⟨v, rfl, w, ψ2, hP, hr2⟩ := h o ψ' hQ
  refine ⟨w, ψ2, hP, fun X hX hY => ?_⟩
  obtain ⟨X1, e1, hr1⟩ := hr1 X hX ⟨X, rfl⟩
  subst e1
  obtain ⟨X2, e2, hr2⟩ := hr2 X hX hY
  exact ⟨X2, e2, fun lv c d hl => g_R_cal (j_thr hI rfl) hI rfl (hinv X lv hX hl) (hr1 _ 0 0 hq) (hr2 lv c d hl)⟩
end JCL
section JCK
variable {Z : gM → gM → Prop} {xs : Nat → Int32} {L0 y pc n : Nat} {L : List (Option Value)} {ψ : jSt} {P : jO → jSt → Prop} {ix z na kd ci a j : Nat} {rs : Nat × Nat × Nat × Nat × Option String} {rest : List Value} {tm : List (Option Nat)}
theorem JZ_v0I {Q : Int → jSt → Prop} (hI : gI y pc = some (.invokevirtual ix, n)) (hiv : gIv y ix = some (z, na, kd, ci, rs)) (hk : j_ivc y z na kd 1 = true) (hna : na = 0) (hcat : ([] : List Value).all (fun v => v.category == 1) = true) (hrest : (rest.map fun v => v.category).sum ≤ 8) (hcell : jSk.getD a none = some (.inl (ci, tm))) (hargs : ([] : List Value).all (g_ok 131) = true) (hr : rest.all (g_ok 131) = true) (hz : JZ Eq xs L0 z 0 ([some (.ref a)] ++ List.replicate j none) [] ψ (oI Q)) (h : ∀ x ψ', Q x ψ' → JZ Z xs L0 y (pc + 3) L (.int (jI x) :: rest) ψ' P) : JZ Z xs L0 y pc L (.ref a :: rest) ψ P :=
  JZ_inv (args := []) hI (fun _ => rfl) rfl rfl (by decide) hiv hk hna.symm hcat hrest hcell hargs hr (j := j) hz (fun o ψ' hq => by
    obtain ⟨x, rfl, hq⟩ := hq
    exact Or.inl ⟨_, rfl, h x ψ' hq⟩)
theorem JZ_v0R {Q : Nat → jSt → Prop} (hI : gI y pc = some (.invokevirtual ix, n)) (hiv : gIv y ix = some (z, na, kd, ci, rs)) (hk : j_ivc y z na kd 1 = true) (hna : na = 0) (hcat : ([] : List Value).all (fun v => v.category == 1) = true) (hrest : (rest.map fun v => v.category).sum ≤ 8) (hcell : jSk.getD a none = some (.inl (ci, tm))) (hargs : ([] : List Value).all (g_ok 131) = true) (hr : rest.all (g_ok 131) = true) (hz : JZ Eq xs L0 z 0 ([some (.ref a)] ++ List.replicate j none) [] ψ (oR Q)) (h : ∀ x ψ', Q x ψ' → JZ Z xs L0 y (pc + 3) L (.ref x :: rest) ψ' P) : JZ Z xs L0 y pc L (.ref a :: rest) ψ P :=
  JZ_inv (args := []) hI (fun _ => rfl) rfl rfl (by decide) hiv hk hna.symm hcat hrest hcell hargs hr (j := j) hz (fun o ψ' hq => by
    obtain ⟨x, rfl, hq⟩ := hq
    exact Or.inl ⟨_, rfl, h x ψ' hq⟩)
theorem JZ_v0L {Q : Int64 → jSt → Prop} (hI : gI y pc = some (.invokevirtual ix, n)) (hiv : gIv y ix = some (z, na, kd, ci, rs)) (hk : j_ivc y z na kd 1 = true) (hna : na = 0) (hcat : ([] : List Value).all (fun v => v.category == 1) = true) (hrest : (rest.map fun v => v.category).sum ≤ 8) (hcell : jSk.getD a none = some (.inl (ci, tm))) (hargs : ([] : List Value).all (g_ok 131) = true) (hr : rest.all (g_ok 131) = true) (hz : JZ Eq xs L0 z 0 ([some (.ref a)] ++ List.replicate j none) [] ψ (oL Q)) (h : ∀ x ψ', Q x ψ' → JZ Z xs L0 y (pc + 3) L (.long x :: rest) ψ' P) : JZ Z xs L0 y pc L (.ref a :: rest) ψ P :=
  JZ_inv (args := []) hI (fun _ => rfl) rfl rfl (by decide) hiv hk hna.symm hcat hrest hcell hargs hr (j := j) hz (fun o ψ' hq => by
    obtain ⟨x, rfl, hq⟩ := hq
    exact Or.inl ⟨_, rfl, h x ψ' hq⟩)
theorem JZ_v0V {Q : jSt → Prop} (hI : gI y pc = some (.invokevirtual ix, n)) (hiv : gIv y ix = some (z, na, kd, ci, rs)) (hk : j_ivc y z na kd 1 = true) (hna : na = 0) (hcat : ([] : List Value).all (fun v => v.category == 1) = true) (hrest : (rest.map fun v => v.category).sum ≤ 8) (hcell : jSk.getD a none = some (.inl (ci, tm))) (hargs : ([] : List Value).all (g_ok 131) = true) (hr : rest.all (g_ok 131) = true) (hz : JZ Eq xs L0 z 0 ([some (.ref a)] ++ List.replicate j none) [] ψ (oV Q)) (h : ∀ ψ', Q ψ' → JZ Z xs L0 y (pc + 3) L rest ψ' P) : JZ Z xs L0 y pc L (.ref a :: rest) ψ P :=
  JZ_inv (args := []) hI (fun _ => rfl) rfl rfl (by decide) hiv hk hna.symm hcat hrest hcell hargs hr (j := j) hz (fun o ψ' hq => by
    obtain ⟨rfl, hq⟩ := hq
    exact Or.inl ⟨_, rfl, h ψ' hq⟩)
theorem JZ_v1I {Q : Int → jSt → Prop} {v1 : Value} (hI : gI y pc = some (.invokevirtual ix, n)) (hiv : gIv y ix = some (z, na, kd, ci, rs)) (hk : j_ivc y z na kd 1 = true) (hna : na = 1) (hcat : ([v1] : List Value).all (fun v => v.category == 1) = true) (hrest : (rest.map fun v => v.category).sum ≤ 8) (hcell : jSk.getD a none = some (.inl (ci, tm))) (hargs : ([v1] : List Value).all (g_ok 131) = true) (hr : rest.all (g_ok 131) = true) (hz : JZ Eq xs L0 z 0 ([some (.ref a), some v1] ++ List.replicate j none) [] ψ (oI Q)) (h : ∀ x ψ', Q x ψ' → JZ Z xs L0 y (pc + 3) L (.int (jI x) :: rest) ψ' P) : JZ Z xs L0 y pc L (v1 :: .ref a :: rest) ψ P :=
  JZ_inv (args := [v1]) hI (fun _ => rfl) rfl rfl (by decide) hiv hk hna.symm hcat hrest hcell hargs hr (j := j) hz (fun o ψ' hq => by
    obtain ⟨x, rfl, hq⟩ := hq
    exact Or.inl ⟨_, rfl, h x ψ' hq⟩)
theorem JZ_v1R {Q : Nat → jSt → Prop} {v1 : Value} (hI : gI y pc = some (.invokevirtual ix, n)) (hiv : gIv y ix = some (z, na, kd, ci, rs)) (hk : j_ivc y z na kd 1 = true) (hna : na = 1) (hcat : ([v1] : List Value).all (fun v => v.category == 1) = true) (hrest : (rest.map fun v => v.category).sum ≤ 8) (hcell : jSk.getD a none = some (.inl (ci, tm))) (hargs : ([v1] : List Value).all (g_ok 131) = true) (hr : rest.all (g_ok 131) = true) (hz : JZ Eq xs L0 z 0 ([some (.ref a), some v1] ++ List.replicate j none) [] ψ (oR Q)) (h : ∀ x ψ', Q x ψ' → JZ Z xs L0 y (pc + 3) L (.ref x :: rest) ψ' P) : JZ Z xs L0 y pc L (v1 :: .ref a :: rest) ψ P :=
  JZ_inv (args := [v1]) hI (fun _ => rfl) rfl rfl (by decide) hiv hk hna.symm hcat hrest hcell hargs hr (j := j) hz (fun o ψ' hq => by
    obtain ⟨x, rfl, hq⟩ := hq
    exact Or.inl ⟨_, rfl, h x ψ' hq⟩)
theorem JZ_v1L {Q : Int64 → jSt → Prop} {v1 : Value} (hI : gI y pc = some (.invokevirtual ix, n)) (hiv : gIv y ix = some (z, na, kd, ci, rs)) (hk : j_ivc y z na kd 1 = true) (hna : na = 1) (hcat : ([v1] : List Value).all (fun v => v.category == 1) = true) (hrest : (rest.map fun v => v.category).sum ≤ 8) (hcell : jSk.getD a none = some (.inl (ci, tm))) (hargs : ([v1] : List Value).all (g_ok 131) = true) (hr : rest.all (g_ok 131) = true) (hz : JZ Eq xs L0 z 0 ([some (.ref a), some v1] ++ List.replicate j none) [] ψ (oL Q)) (h : ∀ x ψ', Q x ψ' → JZ Z xs L0 y (pc + 3) L (.long x :: rest) ψ' P) : JZ Z xs L0 y pc L (v1 :: .ref a :: rest) ψ P :=
  JZ_inv (args := [v1]) hI (fun _ => rfl) rfl rfl (by decide) hiv hk hna.symm hcat hrest hcell hargs hr (j := j) hz (fun o ψ' hq => by
    obtain ⟨x, rfl, hq⟩ := hq
    exact Or.inl ⟨_, rfl, h x ψ' hq⟩)
theorem JZ_v1V {Q : jSt → Prop} {v1 : Value} (hI : gI y pc = some (.invokevirtual ix, n)) (hiv : gIv y ix = some (z, na, kd, ci, rs)) (hk : j_ivc y z na kd 1 = true) (hna : na = 1) (hcat : ([v1] : List Value).all (fun v => v.category == 1) = true) (hrest : (rest.map fun v => v.category).sum ≤ 8) (hcell : jSk.getD a none = some (.inl (ci, tm))) (hargs : ([v1] : List Value).all (g_ok 131) = true) (hr : rest.all (g_ok 131) = true) (hz : JZ Eq xs L0 z 0 ([some (.ref a), some v1] ++ List.replicate j none) [] ψ (oV Q)) (h : ∀ ψ', Q ψ' → JZ Z xs L0 y (pc + 3) L rest ψ' P) : JZ Z xs L0 y pc L (v1 :: .ref a :: rest) ψ P :=
  JZ_inv (args := [v1]) hI (fun _ => rfl) rfl rfl (by decide) hiv hk hna.symm hcat hrest hcell hargs hr (j := j) hz (fun o ψ' hq => by
    obtain ⟨rfl, hq⟩ := hq
    exact Or.inl ⟨_, rfl, h ψ' hq⟩)
theorem JZ_v2I {Q : Int → jSt → Prop} {v1 v2 : Value} (hI : gI y pc = some (.invokevirtual ix, n)) (hiv : gIv y ix = some (z, na, kd, ci, rs)) (hk : j_ivc y z na kd 1 = true) (hna : na = 2) (hcat : ([v2, v1] : List Value).all (fun v => v.category == 1) = true) (hrest : (rest.map fun v => v.category).sum ≤ 8) (hcell : jSk.getD a none = some (.inl (ci, tm))) (hargs : ([v2, v1] : List Value).all (g_ok 131) = true) (hr : rest.all (g_ok 131) = true) (hz : JZ Eq xs L0 z 0 ([some (.ref a), some v1, some v2] ++ List.replicate j none) [] ψ (oI Q)) (h : ∀ x ψ', Q x ψ' → JZ Z xs L0 y (pc + 3) L (.int (jI x) :: rest) ψ' P) : JZ Z xs L0 y pc L (v2 :: v1 :: .ref a :: rest) ψ P :=
  JZ_inv (args := [v2, v1]) hI (fun _ => rfl) rfl rfl (by decide) hiv hk hna.symm hcat hrest hcell hargs hr (j := j) hz (fun o ψ' hq => by
    obtain ⟨x, rfl, hq⟩ := hq
    exact Or.inl ⟨_, rfl, h x ψ' hq⟩)
theorem JZ_v2R {Q : Nat → jSt → Prop} {v1 v2 : Value} (hI : gI y pc = some (.invokevirtual ix, n)) (hiv : gIv y ix = some (z, na, kd, ci, rs)) (hk : j_ivc y z na kd 1 = true) (hna : na = 2) (hcat : ([v2, v1] : List Value).all (fun v => v.category == 1) = true) (hrest : (rest.map fun v => v.category).sum ≤ 8) (hcell : jSk.getD a none = some (.inl (ci, tm))) (hargs : ([v2, v1] : List Value).all (g_ok 131) = true) (hr : rest.all (g_ok 131) = true) (hz : JZ Eq xs L0 z 0 ([some (.ref a), some v1, some v2] ++ List.replicate j none) [] ψ (oR Q)) (h : ∀ x ψ', Q x ψ' → JZ Z xs L0 y (pc + 3) L (.ref x :: rest) ψ' P) : JZ Z xs L0 y pc L (v2 :: v1 :: .ref a :: rest) ψ P :=
  JZ_inv (args := [v2, v1]) hI (fun _ => rfl) rfl rfl (by decide) hiv hk hna.symm hcat hrest hcell hargs hr (j := j) hz (fun o ψ' hq => by
    obtain ⟨x, rfl, hq⟩ := hq
    exact Or.inl ⟨_, rfl, h x ψ' hq⟩)
theorem JZ_v2L {Q : Int64 → jSt → Prop} {v1 v2 : Value} (hI : gI y pc = some (.invokevirtual ix, n)) (hiv : gIv y ix = some (z, na, kd, ci, rs)) (hk : j_ivc y z na kd 1 = true) (hna : na = 2) (hcat : ([v2, v1] : List Value).all (fun v => v.category == 1) = true) (hrest : (rest.map fun v => v.category).sum ≤ 8) (hcell : jSk.getD a none = some (.inl (ci, tm))) (hargs : ([v2, v1] : List Value).all (g_ok 131) = true) (hr : rest.all (g_ok 131) = true) (hz : JZ Eq xs L0 z 0 ([some (.ref a), some v1, some v2] ++ List.replicate j none) [] ψ (oL Q)) (h : ∀ x ψ', Q x ψ' → JZ Z xs L0 y (pc + 3) L (.long x :: rest) ψ' P) : JZ Z xs L0 y pc L (v2 :: v1 :: .ref a :: rest) ψ P :=
  JZ_inv (args := [v2, v1]) hI (fun _ => rfl) rfl rfl (by decide) hiv hk hna.symm hcat hrest hcell hargs hr (j := j) hz (fun o ψ' hq => by
    obtain ⟨x, rfl, hq⟩ := hq
    exact Or.inl ⟨_, rfl, h x ψ' hq⟩)
theorem JZ_v2V {Q : jSt → Prop} {v1 v2 : Value} (hI : gI y pc = some (.invokevirtual ix, n)) (hiv : gIv y ix = some (z, na, kd, ci, rs)) (hk : j_ivc y z na kd 1 = true) (hna : na = 2) (hcat : ([v2, v1] : List Value).all (fun v => v.category == 1) = true) (hrest : (rest.map fun v => v.category).sum ≤ 8) (hcell : jSk.getD a none = some (.inl (ci, tm))) (hargs : ([v2, v1] : List Value).all (g_ok 131) = true) (hr : rest.all (g_ok 131) = true) (hz : JZ Eq xs L0 z 0 ([some (.ref a), some v1, some v2] ++ List.replicate j none) [] ψ (oV Q)) (h : ∀ ψ', Q ψ' → JZ Z xs L0 y (pc + 3) L rest ψ' P) : JZ Z xs L0 y pc L (v2 :: v1 :: .ref a :: rest) ψ P :=
  JZ_inv (args := [v2, v1]) hI (fun _ => rfl) rfl rfl (by decide) hiv hk hna.symm hcat hrest hcell hargs hr (j := j) hz (fun o ψ' hq => by
    obtain ⟨rfl, hq⟩ := hq
    exact Or.inl ⟨_, rfl, h ψ' hq⟩)
theorem JZ_v3I {Q : Int → jSt → Prop} {v1 v2 v3 : Value} (hI : gI y pc = some (.invokevirtual ix, n)) (hiv : gIv y ix = some (z, na, kd, ci, rs)) (hk : j_ivc y z na kd 1 = true) (hna : na = 3) (hcat : ([v3, v2, v1] : List Value).all (fun v => v.category == 1) = true) (hrest : (rest.map fun v => v.category).sum ≤ 8) (hcell : jSk.getD a none = some (.inl (ci, tm))) (hargs : ([v3, v2, v1] : List Value).all (g_ok 131) = true) (hr : rest.all (g_ok 131) = true) (hz : JZ Eq xs L0 z 0 ([some (.ref a), some v1, some v2, some v3] ++ List.replicate j none) [] ψ (oI Q)) (h : ∀ x ψ', Q x ψ' → JZ Z xs L0 y (pc + 3) L (.int (jI x) :: rest) ψ' P) : JZ Z xs L0 y pc L (v3 :: v2 :: v1 :: .ref a :: rest) ψ P :=
  JZ_inv (args := [v3, v2, v1]) hI (fun _ => rfl) rfl rfl (by decide) hiv hk hna.symm hcat hrest hcell hargs hr (j := j) hz (fun o ψ' hq => by
    obtain ⟨x, rfl, hq⟩ := hq
    exact Or.inl ⟨_, rfl, h x ψ' hq⟩)
theorem JZ_v3R {Q : Nat → jSt → Prop} {v1 v2 v3 : Value} (hI : gI y pc = some (.invokevirtual ix, n)) (hiv : gIv y ix = some (z, na, kd, ci, rs)) (hk : j_ivc y z na kd 1 = true) (hna : na = 3) (hcat : ([v3, v2, v1] : List Value).all (fun v => v.category == 1) = true) (hrest : (rest.map fun v => v.category).sum ≤ 8) (hcell : jSk.getD a none = some (.inl (ci, tm))) (hargs : ([v3, v2, v1] : List Value).all (g_ok 131) = true) (hr : rest.all (g_ok 131) = true) (hz : JZ Eq xs L0 z 0 ([some (.ref a), some v1, some v2, some v3] ++ List.replicate j none) [] ψ (oR Q)) (h : ∀ x ψ', Q x ψ' → JZ Z xs L0 y (pc + 3) L (.ref x :: rest) ψ' P) : JZ Z xs L0 y pc L (v3 :: v2 :: v1 :: .ref a :: rest) ψ P :=
  JZ_inv (args := [v3, v2, v1]) hI (fun _ => rfl) rfl rfl (by decide) hiv hk hna.symm hcat hrest hcell hargs hr (j := j) hz (fun o ψ' hq => by
    obtain ⟨x, rfl, hq⟩ := hq
    exact Or.inl ⟨_, rfl, h x ψ' hq⟩)
theorem JZ_v3L {Q : Int64 → jSt → Prop} {v1 v2 v3 : Value} (hI : gI y pc = some (.invokevirtual ix, n)) (hiv : gIv y ix = some (z, na, kd, ci, rs)) (hk : j_ivc y z na kd 1 = true) (hna : na = 3) (hcat : ([v3, v2, v1] : List Value).all (fun v => v.category == 1) = true) (hrest : (rest.map fun v => v.category).sum ≤ 8) (hcell : jSk.getD a none = some (.inl (ci, tm))) (hargs : ([v3, v2, v1] : List Value).all (g_ok 131) = true) (hr : rest.all (g_ok 131) = true) (hz : JZ Eq xs L0 z 0 ([some (.ref a), some v1, some v2, some v3] ++ List.replicate j none) [] ψ (oL Q)) (h : ∀ x ψ', Q x ψ' → JZ Z xs L0 y (pc + 3) L (.long x :: rest) ψ' P) : JZ Z xs L0 y pc L (v3 :: v2 :: v1 :: .ref a :: rest) ψ P :=
  JZ_inv (args := [v3, v2, v1]) hI (fun _ => rfl) rfl rfl (by decide) hiv hk hna.symm hcat hrest hcell hargs hr (j := j) hz (fun o ψ' hq => by
    obtain ⟨x, rfl, hq⟩ := hq
    exact Or.inl ⟨_, rfl, h x ψ' hq⟩)
theorem JZ_v3V {Q : jSt → Prop} {v1 v2 v3 : Value} (hI : gI y pc = some (.invokevirtual ix, n)) (hiv : gIv y ix = some (z, na, kd, ci, rs)) (hk : j_ivc y z na kd 1 = true) (hna : na = 3) (hcat : ([v3, v2, v1] : List Value).all (fun v => v.category == 1) = true) (hrest : (rest.map fun v => v.category).sum ≤ 8) (hcell : jSk.getD a none = some (.inl (ci, tm))) (hargs : ([v3, v2, v1] : List Value).all (g_ok 131) = true) (hr : rest.all (g_ok 131) = true) (hz : JZ Eq xs L0 z 0 ([some (.ref a), some v1, some v2, some v3] ++ List.replicate j none) [] ψ (oV Q)) (h : ∀ ψ', Q ψ' → JZ Z xs L0 y (pc + 3) L rest ψ' P) : JZ Z xs L0 y pc L (v3 :: v2 :: v1 :: .ref a :: rest) ψ P :=
  JZ_inv (args := [v3, v2, v1]) hI (fun _ => rfl) rfl rfl (by decide) hiv hk hna.symm hcat hrest hcell hargs hr (j := j) hz (fun o ψ' hq => by
    obtain ⟨rfl, hq⟩ := hq
    exact Or.inl ⟨_, rfl, h ψ' hq⟩)
theorem JZ_v4I {Q : Int → jSt → Prop} {v1 v2 v3 v4 : Value} (hI : gI y pc = some (.invokevirtual ix, n)) (hiv : gIv y ix = some (z, na, kd, ci, rs)) (hk : j_ivc y z na kd 1 = true) (hna : na = 4) (hcat : ([v4, v3, v2, v1] : List Value).all (fun v => v.category == 1) = true) (hrest : (rest.map fun v => v.category).sum ≤ 8) (hcell : jSk.getD a none = some (.inl (ci, tm))) (hargs : ([v4, v3, v2, v1] : List Value).all (g_ok 131) = true) (hr : rest.all (g_ok 131) = true) (hz : JZ Eq xs L0 z 0 ([some (.ref a), some v1, some v2, some v3, some v4] ++ List.replicate j none) [] ψ (oI Q)) (h : ∀ x ψ', Q x ψ' → JZ Z xs L0 y (pc + 3) L (.int (jI x) :: rest) ψ' P) : JZ Z xs L0 y pc L (v4 :: v3 :: v2 :: v1 :: .ref a :: rest) ψ P :=
  JZ_inv (args := [v4, v3, v2, v1]) hI (fun _ => rfl) rfl rfl (by decide) hiv hk hna.symm hcat hrest hcell hargs hr (j := j) hz (fun o ψ' hq => by
    obtain ⟨x, rfl, hq⟩ := hq
    exact Or.inl ⟨_, rfl, h x ψ' hq⟩)
theorem JZ_v5I {Q : Int → jSt → Prop} {v1 v2 v3 v4 v5 : Value} (hI : gI y pc = some (.invokevirtual ix, n)) (hiv : gIv y ix = some (z, na, kd, ci, rs)) (hk : j_ivc y z na kd 1 = true) (hna : na = 5) (hcat : ([v5, v4, v3, v2, v1] : List Value).all (fun v => v.category == 1) = true) (hrest : (rest.map fun v => v.category).sum ≤ 8) (hcell : jSk.getD a none = some (.inl (ci, tm))) (hargs : ([v5, v4, v3, v2, v1] : List Value).all (g_ok 131) = true) (hr : rest.all (g_ok 131) = true) (hz : JZ Eq xs L0 z 0 ([some (.ref a), some v1, some v2, some v3, some v4, some v5] ++ List.replicate j none) [] ψ (oI Q)) (h : ∀ x ψ', Q x ψ' → JZ Z xs L0 y (pc + 3) L (.int (jI x) :: rest) ψ' P) : JZ Z xs L0 y pc L (v5 :: v4 :: v3 :: v2 :: v1 :: .ref a :: rest) ψ P :=
  JZ_inv (args := [v5, v4, v3, v2, v1]) hI (fun _ => rfl) rfl rfl (by decide) hiv hk hna.symm hcat hrest hcell hargs hr (j := j) hz (fun o ψ' hq => by
    obtain ⟨x, rfl, hq⟩ := hq
    exact Or.inl ⟨_, rfl, h x ψ' hq⟩)
theorem JZ_s0V {Q : jSt → Prop} (hI : gI y pc = some (.invokespecial ix, n)) (hiv : gIv y ix = some (z, na, kd, ci, rs)) (hk : j_ivc y z na kd 2 = true) (hna : na = 0) (hcat : ([] : List Value).all (fun v => v.category == 1) = true) (hrest : (rest.map fun v => v.category).sum ≤ 8) (hcell : jSk.getD a none = some (.inl (ci, tm))) (hargs : ([] : List Value).all (g_ok 131) = true) (hr : rest.all (g_ok 131) = true) (hz : JZ Eq xs L0 z 0 ([some (.ref a)] ++ List.replicate j none) [] ψ (oV Q)) (h : ∀ ψ', Q ψ' → JZ Z xs L0 y (pc + 3) L rest ψ' P) : JZ Z xs L0 y pc L (.ref a :: rest) ψ P :=
  JZ_inv (args := []) hI (fun _ => rfl) rfl rfl (by decide) hiv hk hna.symm hcat hrest hcell hargs hr (j := j) hz (fun o ψ' hq => by
    obtain ⟨rfl, hq⟩ := hq
    exact Or.inl ⟨_, rfl, h ψ' hq⟩)
theorem JZ_s1V {Q : jSt → Prop} {v1 : Value} (hI : gI y pc = some (.invokespecial ix, n)) (hiv : gIv y ix = some (z, na, kd, ci, rs)) (hk : j_ivc y z na kd 2 = true) (hna : na = 1) (hcat : ([v1] : List Value).all (fun v => v.category == 1) = true) (hrest : (rest.map fun v => v.category).sum ≤ 8) (hcell : jSk.getD a none = some (.inl (ci, tm))) (hargs : ([v1] : List Value).all (g_ok 131) = true) (hr : rest.all (g_ok 131) = true) (hz : JZ Eq xs L0 z 0 ([some (.ref a), some v1] ++ List.replicate j none) [] ψ (oV Q)) (h : ∀ ψ', Q ψ' → JZ Z xs L0 y (pc + 3) L rest ψ' P) : JZ Z xs L0 y pc L (v1 :: .ref a :: rest) ψ P :=
  JZ_inv (args := [v1]) hI (fun _ => rfl) rfl rfl (by decide) hiv hk hna.symm hcat hrest hcell hargs hr (j := j) hz (fun o ψ' hq => by
    obtain ⟨rfl, hq⟩ := hq
    exact Or.inl ⟨_, rfl, h ψ' hq⟩)
theorem JZ_s2V {Q : jSt → Prop} {v1 v2 : Value} (hI : gI y pc = some (.invokespecial ix, n)) (hiv : gIv y ix = some (z, na, kd, ci, rs)) (hk : j_ivc y z na kd 2 = true) (hna : na = 2) (hcat : ([v2, v1] : List Value).all (fun v => v.category == 1) = true) (hrest : (rest.map fun v => v.category).sum ≤ 8) (hcell : jSk.getD a none = some (.inl (ci, tm))) (hargs : ([v2, v1] : List Value).all (g_ok 131) = true) (hr : rest.all (g_ok 131) = true) (hz : JZ Eq xs L0 z 0 ([some (.ref a), some v1, some v2] ++ List.replicate j none) [] ψ (oV Q)) (h : ∀ ψ', Q ψ' → JZ Z xs L0 y (pc + 3) L rest ψ' P) : JZ Z xs L0 y pc L (v2 :: v1 :: .ref a :: rest) ψ P :=
  JZ_inv (args := [v2, v1]) hI (fun _ => rfl) rfl rfl (by decide) hiv hk hna.symm hcat hrest hcell hargs hr (j := j) hz (fun o ψ' hq => by
    obtain ⟨rfl, hq⟩ := hq
    exact Or.inl ⟨_, rfl, h ψ' hq⟩)
theorem JZ_v0P {Q : Int → Prop} (hI : gI y pc = some (.invokevirtual ix, n)) (hiv : gIv y ix = some (z, na, kd, ci, rs)) (hk : j_ivc y z na kd 1 = true) (hna : na = 0) (hcat : ([] : List Value).all (fun v => v.category == 1) = true) (hrest : (rest.map fun v => v.category).sum ≤ 8) (hcell : jSk.getD a none = some (.inl (ci, tm))) (hargs : ([] : List Value).all (g_ok 131) = true) (hr : rest.all (g_ok 131) = true) (hz : JZ Eq xs L0 z 0 ([some (.ref a)] ++ List.replicate j none) [] ψ (oI fun x ψ' => Q x ∧ ψ' = ψ)) (h : ∀ x, Q x → JZ Z xs L0 y (pc + 3) L (.int (jI x) :: rest) ψ P) : JZ Z xs L0 y pc L (.ref a :: rest) ψ P :=
  JZ_v0I hI hiv hk hna hcat hrest hcell hargs hr hz (fun x ψ' hq => by
    obtain ⟨h1, h2⟩ := hq
    rw [h2]
    exact h x h1)
theorem JZ_v0A {e : Nat} (hI : gI y pc = some (.invokevirtual ix, n)) (hiv : gIv y ix = some (z, na, kd, ci, rs)) (hk : j_ivc y z na kd 1 = true) (hna : na = 0) (hcat : ([] : List Value).all (fun v => v.category == 1) = true) (hrest : (rest.map fun v => v.category).sum ≤ 8) (hcell : jSk.getD a none = some (.inl (ci, tm))) (hargs : ([] : List Value).all (g_ok 131) = true) (hr : rest.all (g_ok 131) = true) (hz : JZ Eq xs L0 z 0 ([some (.ref a)] ++ List.replicate j none) [] ψ (oR fun x ψ' => x = e ∧ ψ' = ψ)) (h : JZ Z xs L0 y (pc + 3) L (.ref e :: rest) ψ P) : JZ Z xs L0 y pc L (.ref a :: rest) ψ P :=
  JZ_v0R hI hiv hk hna hcat hrest hcell hargs hr hz (fun x ψ' hq => by
    obtain ⟨h1, h2⟩ := hq
    rw [h1, h2]
    exact h)
theorem JZ_v0W {Q : Int64 → Prop} (hI : gI y pc = some (.invokevirtual ix, n)) (hiv : gIv y ix = some (z, na, kd, ci, rs)) (hk : j_ivc y z na kd 1 = true) (hna : na = 0) (hcat : ([] : List Value).all (fun v => v.category == 1) = true) (hrest : (rest.map fun v => v.category).sum ≤ 8) (hcell : jSk.getD a none = some (.inl (ci, tm))) (hargs : ([] : List Value).all (g_ok 131) = true) (hr : rest.all (g_ok 131) = true) (hz : JZ Eq xs L0 z 0 ([some (.ref a)] ++ List.replicate j none) [] ψ (oL fun x ψ' => Q x ∧ ψ' = ψ)) (h : ∀ x, Q x → JZ Z xs L0 y (pc + 3) L (.long x :: rest) ψ P) : JZ Z xs L0 y pc L (.ref a :: rest) ψ P :=
  JZ_v0L hI hiv hk hna hcat hrest hcell hargs hr hz (fun x ψ' hq => by
    obtain ⟨h1, h2⟩ := hq
    rw [h2]
    exact h x h1)
theorem JZ_v0U  (hI : gI y pc = some (.invokevirtual ix, n)) (hiv : gIv y ix = some (z, na, kd, ci, rs)) (hk : j_ivc y z na kd 1 = true) (hna : na = 0) (hcat : ([] : List Value).all (fun v => v.category == 1) = true) (hrest : (rest.map fun v => v.category).sum ≤ 8) (hcell : jSk.getD a none = some (.inl (ci, tm))) (hargs : ([] : List Value).all (g_ok 131) = true) (hr : rest.all (g_ok 131) = true) (hz : JZ Eq xs L0 z 0 ([some (.ref a)] ++ List.replicate j none) [] ψ (oV fun ψ' => ψ' = ψ)) (h : JZ Z xs L0 y (pc + 3) L rest ψ P) : JZ Z xs L0 y pc L (.ref a :: rest) ψ P :=
  JZ_v0V hI hiv hk hna hcat hrest hcell hargs hr hz (fun ψ' hq => by
    rw [hq]
    exact h)
theorem JZ_v1P {Q : Int → Prop} {v1 : Value} (hI : gI y pc = some (.invokevirtual ix, n)) (hiv : gIv y ix = some (z, na, kd, ci, rs)) (hk : j_ivc y z na kd 1 = true) (hna : na = 1) (hcat : ([v1] : List Value).all (fun v => v.category == 1) = true) (hrest : (rest.map fun v => v.category).sum ≤ 8) (hcell : jSk.getD a none = some (.inl (ci, tm))) (hargs : ([v1] : List Value).all (g_ok 131) = true) (hr : rest.all (g_ok 131) = true) (hz : JZ Eq xs L0 z 0 ([some (.ref a), some v1] ++ List.replicate j none) [] ψ (oI fun x ψ' => Q x ∧ ψ' = ψ)) (h : ∀ x, Q x → JZ Z xs L0 y (pc + 3) L (.int (jI x) :: rest) ψ P) : JZ Z xs L0 y pc L (v1 :: .ref a :: rest) ψ P :=
  JZ_v1I hI hiv hk hna hcat hrest hcell hargs hr hz (fun x ψ' hq => by
    obtain ⟨h1, h2⟩ := hq
    rw [h2]
    exact h x h1)
theorem JZ_v1A {e : Nat} {v1 : Value} (hI : gI y pc = some (.invokevirtual ix, n)) (hiv : gIv y ix = some (z, na, kd, ci, rs)) (hk : j_ivc y z na kd 1 = true) (hna : na = 1) (hcat : ([v1] : List Value).all (fun v => v.category == 1) = true) (hrest : (rest.map fun v => v.category).sum ≤ 8) (hcell : jSk.getD a none = some (.inl (ci, tm))) (hargs : ([v1] : List Value).all (g_ok 131) = true) (hr : rest.all (g_ok 131) = true) (hz : JZ Eq xs L0 z 0 ([some (.ref a), some v1] ++ List.replicate j none) [] ψ (oR fun x ψ' => x = e ∧ ψ' = ψ)) (h : JZ Z xs L0 y (pc + 3) L (.ref e :: rest) ψ P) : JZ Z xs L0 y pc L (v1 :: .ref a :: rest) ψ P :=
  JZ_v1R hI hiv hk hna hcat hrest hcell hargs hr hz (fun x ψ' hq => by
    obtain ⟨h1, h2⟩ := hq
    rw [h1, h2]
    exact h)
theorem JZ_v1W {Q : Int64 → Prop} {v1 : Value} (hI : gI y pc = some (.invokevirtual ix, n)) (hiv : gIv y ix = some (z, na, kd, ci, rs)) (hk : j_ivc y z na kd 1 = true) (hna : na = 1) (hcat : ([v1] : List Value).all (fun v => v.category == 1) = true) (hrest : (rest.map fun v => v.category).sum ≤ 8) (hcell : jSk.getD a none = some (.inl (ci, tm))) (hargs : ([v1] : List Value).all (g_ok 131) = true) (hr : rest.all (g_ok 131) = true) (hz : JZ Eq xs L0 z 0 ([some (.ref a), some v1] ++ List.replicate j none) [] ψ (oL fun x ψ' => Q x ∧ ψ' = ψ)) (h : ∀ x, Q x → JZ Z xs L0 y (pc + 3) L (.long x :: rest) ψ P) : JZ Z xs L0 y pc L (v1 :: .ref a :: rest) ψ P :=
  JZ_v1L hI hiv hk hna hcat hrest hcell hargs hr hz (fun x ψ' hq => by
    obtain ⟨h1, h2⟩ := hq
    rw [h2]
    exact h x h1)
theorem JZ_v1U  {v1 : Value} (hI : gI y pc = some (.invokevirtual ix, n)) (hiv : gIv y ix = some (z, na, kd, ci, rs)) (hk : j_ivc y z na kd 1 = true) (hna : na = 1) (hcat : ([v1] : List Value).all (fun v => v.category == 1) = true) (hrest : (rest.map fun v => v.category).sum ≤ 8) (hcell : jSk.getD a none = some (.inl (ci, tm))) (hargs : ([v1] : List Value).all (g_ok 131) = true) (hr : rest.all (g_ok 131) = true) (hz : JZ Eq xs L0 z 0 ([some (.ref a), some v1] ++ List.replicate j none) [] ψ (oV fun ψ' => ψ' = ψ)) (h : JZ Z xs L0 y (pc + 3) L rest ψ P) : JZ Z xs L0 y pc L (v1 :: .ref a :: rest) ψ P :=
  JZ_v1V hI hiv hk hna hcat hrest hcell hargs hr hz (fun ψ' hq => by
    rw [hq]
    exact h)
theorem JZ_v2P {Q : Int → Prop} {v1 v2 : Value} (hI : gI y pc = some (.invokevirtual ix, n)) (hiv : gIv y ix = some (z, na, kd, ci, rs)) (hk : j_ivc y z na kd 1 = true) (hna : na = 2) (hcat : ([v2, v1] : List Value).all (fun v => v.category == 1) = true) (hrest : (rest.map fun v => v.category).sum ≤ 8) (hcell : jSk.getD a none = some (.inl (ci, tm))) (hargs : ([v2, v1] : List Value).all (g_ok 131) = true) (hr : rest.all (g_ok 131) = true) (hz : JZ Eq xs L0 z 0 ([some (.ref a), some v1, some v2] ++ List.replicate j none) [] ψ (oI fun x ψ' => Q x ∧ ψ' = ψ)) (h : ∀ x, Q x → JZ Z xs L0 y (pc + 3) L (.int (jI x) :: rest) ψ P) : JZ Z xs L0 y pc L (v2 :: v1 :: .ref a :: rest) ψ P :=
  JZ_v2I hI hiv hk hna hcat hrest hcell hargs hr hz (fun x ψ' hq => by
    obtain ⟨h1, h2⟩ := hq
    rw [h2]
    exact h x h1)
theorem JZ_v2A {e : Nat} {v1 v2 : Value} (hI : gI y pc = some (.invokevirtual ix, n)) (hiv : gIv y ix = some (z, na, kd, ci, rs)) (hk : j_ivc y z na kd 1 = true) (hna : na = 2) (hcat : ([v2, v1] : List Value).all (fun v => v.category == 1) = true) (hrest : (rest.map fun v => v.category).sum ≤ 8) (hcell : jSk.getD a none = some (.inl (ci, tm))) (hargs : ([v2, v1] : List Value).all (g_ok 131) = true) (hr : rest.all (g_ok 131) = true) (hz : JZ Eq xs L0 z 0 ([some (.ref a), some v1, some v2] ++ List.replicate j none) [] ψ (oR fun x ψ' => x = e ∧ ψ' = ψ)) (h : JZ Z xs L0 y (pc + 3) L (.ref e :: rest) ψ P) : JZ Z xs L0 y pc L (v2 :: v1 :: .ref a :: rest) ψ P :=
  JZ_v2R hI hiv hk hna hcat hrest hcell hargs hr hz (fun x ψ' hq => by
    obtain ⟨h1, h2⟩ := hq
    rw [h1, h2]
    exact h)
theorem JZ_v2W {Q : Int64 → Prop} {v1 v2 : Value} (hI : gI y pc = some (.invokevirtual ix, n)) (hiv : gIv y ix = some (z, na, kd, ci, rs)) (hk : j_ivc y z na kd 1 = true) (hna : na = 2) (hcat : ([v2, v1] : List Value).all (fun v => v.category == 1) = true) (hrest : (rest.map fun v => v.category).sum ≤ 8) (hcell : jSk.getD a none = some (.inl (ci, tm))) (hargs : ([v2, v1] : List Value).all (g_ok 131) = true) (hr : rest.all (g_ok 131) = true) (hz : JZ Eq xs L0 z 0 ([some (.ref a), some v1, some v2] ++ List.replicate j none) [] ψ (oL fun x ψ' => Q x ∧ ψ' = ψ)) (h : ∀ x, Q x → JZ Z xs L0 y (pc + 3) L (.long x :: rest) ψ P) : JZ Z xs L0 y pc L (v2 :: v1 :: .ref a :: rest) ψ P :=
  JZ_v2L hI hiv hk hna hcat hrest hcell hargs hr hz (fun x ψ' hq => by
    obtain ⟨h1, h2⟩ := hq
    rw [h2]
    exact h x h1)
theorem JZ_v2U  {v1 v2 : Value} (hI : gI y pc = some (.invokevirtual ix, n)) (hiv : gIv y ix = some (z, na, kd, ci, rs)) (hk : j_ivc y z na kd 1 = true) (hna : na = 2) (hcat : ([v2, v1] : List Value).all (fun v => v.category == 1) = true) (hrest : (rest.map fun v => v.category).sum ≤ 8) (hcell : jSk.getD a none = some (.inl (ci, tm))) (hargs : ([v2, v1] : List Value).all (g_ok 131) = true) (hr : rest.all (g_ok 131) = true) (hz : JZ Eq xs L0 z 0 ([some (.ref a), some v1, some v2] ++ List.replicate j none) [] ψ (oV fun ψ' => ψ' = ψ)) (h : JZ Z xs L0 y (pc + 3) L rest ψ P) : JZ Z xs L0 y pc L (v2 :: v1 :: .ref a :: rest) ψ P :=
  JZ_v2V hI hiv hk hna hcat hrest hcell hargs hr hz (fun ψ' hq => by
    rw [hq]
    exact h)
theorem JZ_v3P {Q : Int → Prop} {v1 v2 v3 : Value} (hI : gI y pc = some (.invokevirtual ix, n)) (hiv : gIv y ix = some (z, na, kd, ci, rs)) (hk : j_ivc y z na kd 1 = true) (hna : na = 3) (hcat : ([v3, v2, v1] : List Value).all (fun v => v.category == 1) = true) (hrest : (rest.map fun v => v.category).sum ≤ 8) (hcell : jSk.getD a none = some (.inl (ci, tm))) (hargs : ([v3, v2, v1] : List Value).all (g_ok 131) = true) (hr : rest.all (g_ok 131) = true) (hz : JZ Eq xs L0 z 0 ([some (.ref a), some v1, some v2, some v3] ++ List.replicate j none) [] ψ (oI fun x ψ' => Q x ∧ ψ' = ψ)) (h : ∀ x, Q x → JZ Z xs L0 y (pc + 3) L (.int (jI x) :: rest) ψ P) : JZ Z xs L0 y pc L (v3 :: v2 :: v1 :: .ref a :: rest) ψ P :=
  JZ_v3I hI hiv hk hna hcat hrest hcell hargs hr hz (fun x ψ' hq => by
    obtain ⟨h1, h2⟩ := hq
    rw [h2]
    exact h x h1)
theorem JZ_v3A {e : Nat} {v1 v2 v3 : Value} (hI : gI y pc = some (.invokevirtual ix, n)) (hiv : gIv y ix = some (z, na, kd, ci, rs)) (hk : j_ivc y z na kd 1 = true) (hna : na = 3) (hcat : ([v3, v2, v1] : List Value).all (fun v => v.category == 1) = true) (hrest : (rest.map fun v => v.category).sum ≤ 8) (hcell : jSk.getD a none = some (.inl (ci, tm))) (hargs : ([v3, v2, v1] : List Value).all (g_ok 131) = true) (hr : rest.all (g_ok 131) = true) (hz : JZ Eq xs L0 z 0 ([some (.ref a), some v1, some v2, some v3] ++ List.replicate j none) [] ψ (oR fun x ψ' => x = e ∧ ψ' = ψ)) (h : JZ Z xs L0 y (pc + 3) L (.ref e :: rest) ψ P) : JZ Z xs L0 y pc L (v3 :: v2 :: v1 :: .ref a :: rest) ψ P :=
  JZ_v3R hI hiv hk hna hcat hrest hcell hargs hr hz (fun x ψ' hq => by
    obtain ⟨h1, h2⟩ := hq
    rw [h1, h2]
    exact h)
theorem JZ_v3W {Q : Int64 → Prop} {v1 v2 v3 : Value} (hI : gI y pc = some (.invokevirtual ix, n)) (hiv : gIv y ix = some (z, na, kd, ci, rs)) (hk : j_ivc y z na kd 1 = true) (hna : na = 3) (hcat : ([v3, v2, v1] : List Value).all (fun v => v.category == 1) = true) (hrest : (rest.map fun v => v.category).sum ≤ 8) (hcell : jSk.getD a none = some (.inl (ci, tm))) (hargs : ([v3, v2, v1] : List Value).all (g_ok 131) = true) (hr : rest.all (g_ok 131) = true) (hz : JZ Eq xs L0 z 0 ([some (.ref a), some v1, some v2, some v3] ++ List.replicate j none) [] ψ (oL fun x ψ' => Q x ∧ ψ' = ψ)) (h : ∀ x, Q x → JZ Z xs L0 y (pc + 3) L (.long x :: rest) ψ P) : JZ Z xs L0 y pc L (v3 :: v2 :: v1 :: .ref a :: rest) ψ P :=
  JZ_v3L hI hiv hk hna hcat hrest hcell hargs hr hz (fun x ψ' hq => by
    obtain ⟨h1, h2⟩ := hq
    rw [h2]
    exact h x h1)
theorem JZ_v3U  {v1 v2 v3 : Value} (hI : gI y pc = some (.invokevirtual ix, n)) (hiv : gIv y ix = some (z, na, kd, ci, rs)) (hk : j_ivc y z na kd 1 = true) (hna : na = 3) (hcat : ([v3, v2, v1] : List Value).all (fun v => v.category == 1) = true) (hrest : (rest.map fun v => v.category).sum ≤ 8) (hcell : jSk.getD a none = some (.inl (ci, tm))) (hargs : ([v3, v2, v1] : List Value).all (g_ok 131) = true) (hr : rest.all (g_ok 131) = true) (hz : JZ Eq xs L0 z 0 ([some (.ref a), some v1, some v2, some v3] ++ List.replicate j none) [] ψ (oV fun ψ' => ψ' = ψ)) (h : JZ Z xs L0 y (pc + 3) L rest ψ P) : JZ Z xs L0 y pc L (v3 :: v2 :: v1 :: .ref a :: rest) ψ P :=
  JZ_v3V hI hiv hk hna hcat hrest hcell hargs hr hz (fun ψ' hq => by
    rw [hq]
    exact h)
theorem JZ_t1I {Q : Int → jSt → Prop} {v1 : Value} (hI : gI y pc = some (.invokestatic ix, n)) (hiv : gIv y ix = some (z, na, kd, ci, rs)) (hk : j_ivc y z na kd 0 = true) (hna : na = 1) (hcat : ([v1] : List Value).all (fun v => v.category == 1) = true) (hrest : (rest.map fun v => v.category).sum ≤ 8) (hargs : ([v1] : List Value).all (g_ok 131) = true) (hr : rest.all (g_ok 131) = true) (hz : JZ Eq xs L0 z 0 ([some v1] ++ List.replicate j none) [] ψ (oI Q)) (h : ∀ x ψ', Q x ψ' → JZ Z xs L0 y (pc + 3) L (.int (jI x) :: rest) ψ' P) : JZ Z xs L0 y pc L (v1 :: rest) ψ P :=
  JZ_invS (args := [v1]) hI hiv hk hna.symm hcat hrest hargs hr (j := j) hz (fun o ψ' hq => by
    obtain ⟨x, rfl, hq⟩ := hq
    exact ⟨_, rfl, h x ψ' hq⟩)
theorem JZ_t2I {Q : Int → jSt → Prop} {v1 v2 : Value} (hI : gI y pc = some (.invokestatic ix, n)) (hiv : gIv y ix = some (z, na, kd, ci, rs)) (hk : j_ivc y z na kd 0 = true) (hna : na = 2) (hcat : ([v2, v1] : List Value).all (fun v => v.category == 1) = true) (hrest : (rest.map fun v => v.category).sum ≤ 8) (hargs : ([v2, v1] : List Value).all (g_ok 131) = true) (hr : rest.all (g_ok 131) = true) (hz : JZ Eq xs L0 z 0 ([some v1, some v2] ++ List.replicate j none) [] ψ (oI Q)) (h : ∀ x ψ', Q x ψ' → JZ Z xs L0 y (pc + 3) L (.int (jI x) :: rest) ψ' P) : JZ Z xs L0 y pc L (v2 :: v1 :: rest) ψ P :=
  JZ_invS (args := [v2, v1]) hI hiv hk hna.symm hcat hrest hargs hr (j := j) hz (fun o ψ' hq => by
    obtain ⟨x, rfl, hq⟩ := hq
    exact ⟨_, rfl, h x ψ' hq⟩)
theorem JZ_t3I {Q : Int → jSt → Prop} {v1 v2 v3 : Value} (hI : gI y pc = some (.invokestatic ix, n)) (hiv : gIv y ix = some (z, na, kd, ci, rs)) (hk : j_ivc y z na kd 0 = true) (hna : na = 3) (hcat : ([v3, v2, v1] : List Value).all (fun v => v.category == 1) = true) (hrest : (rest.map fun v => v.category).sum ≤ 8) (hargs : ([v3, v2, v1] : List Value).all (g_ok 131) = true) (hr : rest.all (g_ok 131) = true) (hz : JZ Eq xs L0 z 0 ([some v1, some v2, some v3] ++ List.replicate j none) [] ψ (oI Q)) (h : ∀ x ψ', Q x ψ' → JZ Z xs L0 y (pc + 3) L (.int (jI x) :: rest) ψ' P) : JZ Z xs L0 y pc L (v3 :: v2 :: v1 :: rest) ψ P :=
  JZ_invS (args := [v3, v2, v1]) hI hiv hk hna.symm hcat hrest hargs hr (j := j) hz (fun o ψ' hq => by
    obtain ⟨x, rfl, hq⟩ := hq
    exact ⟨_, rfl, h x ψ' hq⟩)
theorem JZ_t1P {Q : Int → Prop} {v1 : Value} (hI : gI y pc = some (.invokestatic ix, n)) (hiv : gIv y ix = some (z, na, kd, ci, rs)) (hk : j_ivc y z na kd 0 = true) (hna : na = 1) (hcat : ([v1] : List Value).all (fun v => v.category == 1) = true) (hrest : (rest.map fun v => v.category).sum ≤ 8) (hargs : ([v1] : List Value).all (g_ok 131) = true) (hr : rest.all (g_ok 131) = true) (hz : JZ Eq xs L0 z 0 ([some v1] ++ List.replicate j none) [] ψ (oI fun x ψ' => Q x ∧ ψ' = ψ)) (h : ∀ x, Q x → JZ Z xs L0 y (pc + 3) L (.int (jI x) :: rest) ψ P) : JZ Z xs L0 y pc L (v1 :: rest) ψ P :=
  JZ_t1I hI hiv hk hna hcat hrest hargs hr hz (fun x ψ' hq => by
    obtain ⟨h1, h2⟩ := hq
    rw [h2]
    exact h x h1)
theorem JZ_t2P {Q : Int → Prop} {v1 v2 : Value} (hI : gI y pc = some (.invokestatic ix, n)) (hiv : gIv y ix = some (z, na, kd, ci, rs)) (hk : j_ivc y z na kd 0 = true) (hna : na = 2) (hcat : ([v2, v1] : List Value).all (fun v => v.category == 1) = true) (hrest : (rest.map fun v => v.category).sum ≤ 8) (hargs : ([v2, v1] : List Value).all (g_ok 131) = true) (hr : rest.all (g_ok 131) = true) (hz : JZ Eq xs L0 z 0 ([some v1, some v2] ++ List.replicate j none) [] ψ (oI fun x ψ' => Q x ∧ ψ' = ψ)) (h : ∀ x, Q x → JZ Z xs L0 y (pc + 3) L (.int (jI x) :: rest) ψ P) : JZ Z xs L0 y pc L (v2 :: v1 :: rest) ψ P :=
  JZ_t2I hI hiv hk hna hcat hrest hargs hr hz (fun x ψ' hq => by
    obtain ⟨h1, h2⟩ := hq
    rw [h2]
    exact h x h1)
theorem JZ_t3P {Q : Int → Prop} {v1 v2 v3 : Value} (hI : gI y pc = some (.invokestatic ix, n)) (hiv : gIv y ix = some (z, na, kd, ci, rs)) (hk : j_ivc y z na kd 0 = true) (hna : na = 3) (hcat : ([v3, v2, v1] : List Value).all (fun v => v.category == 1) = true) (hrest : (rest.map fun v => v.category).sum ≤ 8) (hargs : ([v3, v2, v1] : List Value).all (g_ok 131) = true) (hr : rest.all (g_ok 131) = true) (hz : JZ Eq xs L0 z 0 ([some v1, some v2, some v3] ++ List.replicate j none) [] ψ (oI fun x ψ' => Q x ∧ ψ' = ψ)) (h : ∀ x, Q x → JZ Z xs L0 y (pc + 3) L (.int (jI x) :: rest) ψ P) : JZ Z xs L0 y pc L (v3 :: v2 :: v1 :: rest) ψ P :=
  JZ_t3I hI hiv hk hna hcat hrest hargs hr hz (fun x ψ' hq => by
    obtain ⟨h1, h2⟩ := hq
    rw [h2]
    exact h x h1)
end JCK
/-! rows of references, in one form -/
section JAR
variable {Z : gM → gM → Prop} {xs : Nat → Int32} {L0 y pc n : Nat} {L : List (Option Value)} {st : List Value} {ψ : jSt} {P : jO → jSt → Prop}
theorem JZ_aBar {r : Nat} {x : Int} (b : Nat) (hI : gI y pc = some (.aaload, n)) (hr : jR2 r) (hx : x = (b : Int)) (hb : b < 8) (h : JZ Z xs L0 y (pc + 1) L (.ref (r + 2 + b) :: st) ψ P) : JZ Z xs L0 y pc L (.int (jI x) :: .ref (r + 1) :: st) ψ P := by
  subst hx
  exact JZ_aald hI (jR_bars hr) (by decide) (by omega) (by omega) (by decide) (by
    have e : r + 1 + 1 + 1 * ((b : Nat) : Int).toNat = r + 2 + b := by omega
    rw [e]; exact h)
theorem JZ_aCue {r : Nat} {x : Int} (b : Nat) (hI : gI y pc = some (.aaload, n)) (hr : jR2 r) (hx : x = (b : Int)) (hb : b < 6) (h : JZ Z xs L0 y (pc + 1) L (.ref (r + 11 + 8 * b) :: st) ψ P) : JZ Z xs L0 y pc L (.int (jI x) :: .ref (r + 10) :: st) ψ P := by
  subst hx
  exact JZ_aald hI (jR_cues hr) (by decide) (by omega) (by omega) (by decide) (by
    have e : r + 10 + 1 + 8 * ((b : Nat) : Int).toNat = r + 11 + 8 * b := by omega
    rw [e]; exact h)
theorem JZ_aMove {r k : Nat} {x : Int} (b : Nat) (hI : gI y pc = some (.aaload, n)) (hr : jR2 r) (hk : k < 6) (hx : x = (b : Int)) (hb : b < 6) (h : JZ Z xs L0 y (pc + 1) L (.ref (r + 13 + 8 * k + b) :: st) ψ P) : JZ Z xs L0 y pc L (.int (jI x) :: .ref (r + 12 + 8 * k) :: st) ψ P := by
  subst hx
  exact JZ_aald hI (jR_cue hr hk).2 (by decide) (by omega) (by omega) (by decide) (by
    have e : r + 12 + 8 * k + 1 + 1 * ((b : Nat) : Int).toNat = r + 13 + 8 * k + b := by omega
    rw [e]; exact h)
theorem JZ_aPiece {x : Int} (b : Nat) (hI : gI y pc = some (.aaload, n)) (hx : x = (b : Int)) (hb : b < 10) (h : JZ Z xs L0 y (pc + 1) L (.ref (121 + b) :: st) ψ P) : JZ Z xs L0 y pc L (.int (jI x) :: .ref 120 :: st) ψ P := by
  subst hx
  exact JZ_aald hI jPieces (by decide) (by omega) (by omega) (by decide) (by
    have e : 120 + 1 + 1 * ((b : Nat) : Int).toNat = 121 + b := by omega
    rw [e]; exact h)
theorem JZ_gMoves {ix r k : Nat} {q : Nat × Option String × String} (hI : gI y pc = some (.getfield ix, n)) (hf : gFld y ix = some (1, 0, q)) (hr : jR2 r) (hk : k < 6) (h : JZ Z xs L0 y (pc + 3) L (.ref (r + 12 + 8 * k) :: st) ψ P) : JZ Z xs L0 y pc L (.ref (r + 11 + 8 * k) :: st) ψ P :=
  JZ_gR hI hf (jR_cue hr hk).1 rfl (by
    have e : r + 11 + 8 * k + 1 = r + 12 + 8 * k := by omega
    rw [e]; exact h)
end JAR
