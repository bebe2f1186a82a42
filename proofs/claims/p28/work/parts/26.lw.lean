/-! CONTRACTS OF THE LAW: the cells behind the class's are told; what is made is counted by the cells -/
def LW (xs : Nat → Int32) (L0 y pc : Nat) (L : List (Option Value)) (st : List Value) (ψ : jSt) (X : gM) (P : Int → jSt → gM → Prop) : Prop :=
  ∃ x ψ' X' nd, P x ψ' X' ∧ X.1 ≤ X'.1 ∧ nd ≤ 18 * (X'.1 - X.1) ∧ ∀ (lv : gL) (c d : Nat), jQ X.1 L lv → g_R xs L0 y pc lv st (jM ψ X) c d (.inl (some (.int (jI x))), jM ψ' X', c + (X'.1 - X.1), d + nd)
section LWS
variable {xs : Nat → Int32} {L0 y pc n : Nat} {L : List (Option Value)} {st : List Value} {ψ : jSt} {X : gM} {P : Int → jSt → gM → Prop}
theorem LW_lift {pc' : Nat} {L' : List (Option Value)} {st' : List Value} {ψ1 : jSt} (h : LW xs L0 y pc' L' st' ψ1 X P)
    (hs : ∀ (lv : gL) (c d : Nat) (o : gOut), jQ X.1 L lv → (∀ lv', jQ X.1 L' lv' → g_R xs L0 y pc' lv' st' (jM ψ1 X) c d o) → g_R xs L0 y pc lv st (jM ψ X) c d o) : LW xs L0 y pc L st ψ X P := by
  obtain ⟨v, ψ', X', nd, hP, h1, h2, hr⟩ := h
  exact ⟨v, ψ', X', nd, hP, h1, h2, fun lv c d hl => hs lv c d _ hl fun lv' hl' => hr lv' c d hl'⟩
theorem LW_post {Q : Int → jSt → gM → Prop} (h : LW xs L0 y pc L st ψ X Q) (hQ : ∀ v ψ' X', Q v ψ' X' → P v ψ' X') : LW xs L0 y pc L st ψ X P := by
  obtain ⟨v, ψ', X', nd, hP, h1, h2, hr⟩ := h
  exact ⟨v, ψ', X', nd, hQ _ _ _ hP, h1, h2, hr⟩
theorem LW_fg {L' : List (Option Value)} (h : LW xs L0 y pc L' st ψ X P) (hL : jLe L' L) : LW xs L0 y pc L st ψ X P :=
  LW_lift h fun lv c d o hl K => K lv (jQ_mono hl (jLe_ok hL))
theorem LW_for {σ : Type} {N : Nat} {I : Nat → σ → jSt → gM → Prop} {Lf : Nat → σ → List (Option Value)}
    (hb : ∀ i s ψ X, i < N → I i s ψ X → (∀ s' ψ' X', I (i + 1) s' ψ' X' → LW xs L0 y pc (Lf (i + 1) s') st ψ' X' P) → LW xs L0 y pc (Lf i s) st ψ X P)
    (he : ∀ s ψ X, I N s ψ X → LW xs L0 y pc (Lf N s) st ψ X P) : ∀ (k i : Nat) (s : σ) (ψ : jSt) (X : gM), i + k = N → I i s ψ X → LW xs L0 y pc (Lf i s) st ψ X P
  | 0, i, s, ψ, X, hi, h => by
    have e : i = N := hi
    subst e
    exact he s ψ X h
  | k + 1, i, s, ψ, X, hi, h => hb i s ψ X (by omega) h fun s' ψ' X' h' => LW_for hb he k (i + 1) s' ψ' X' (by omega) h' 

theorem LW_iconst {v : Int} (hI : gI y pc = some (.iconst v, n)) (h : LW xs L0 y (pc + 1) L (.int (jI v) :: st) ψ X P) : LW xs L0 y pc L (st) ψ X P :=
  LW_lift h fun lv c d o hl K => J_iconst hI (K lv hl)
theorem LW_lconst {v : Fin 2} (hI : gI y pc = some (.lconst v, n)) (h : LW xs L0 y (pc + 1) L (.long (Int64.ofNat (v : Nat)) :: st) ψ X P) : LW xs L0 y pc L (st) ψ X P :=
  LW_lift h fun lv c d o hl K => J_lconst hI (K lv hl)
theorem LW_bipush {v : Int} (hI : gI y pc = some (.bipush v, n)) (hv : (Int8.ofInt v).toInt32 = jI v) (h : LW xs L0 y (pc + 2) L (.int (jI v) :: st) ψ X P) : LW xs L0 y pc L (st) ψ X P :=
  LW_lift h fun lv c d o hl K => J_bipush hI hv (K lv hl)
theorem LW_sipush {v : Int} (hI : gI y pc = some (.sipush v, n)) (hv : (Int16.ofInt v).toInt32 = jI v) (h : LW xs L0 y (pc + 3) L (.int (jI v) :: st) ψ X P) : LW xs L0 y pc L (st) ψ X P :=
  LW_lift h fun lv c d o hl K => J_sipush hI hv (K lv hl)
theorem LW_iadd {x1 x2 : Int} (hI : gI y pc = some (.iadd, n)) (h : LW xs L0 y (pc + 1) L (.int (jI (x1 + x2)) :: st) ψ X P) : LW xs L0 y pc L (.int (jI x2) :: .int (jI x1) :: st) ψ X P :=
  LW_lift h fun lv c d o hl K => J_iadd hI (K lv hl)
theorem LW_isub {x1 x2 : Int} (hI : gI y pc = some (.isub, n)) (h : LW xs L0 y (pc + 1) L (.int (jI (x1 - x2)) :: st) ψ X P) : LW xs L0 y pc L (.int (jI x2) :: .int (jI x1) :: st) ψ X P :=
  LW_lift h fun lv c d o hl K => J_isub hI (K lv hl)
theorem LW_imul {x1 x2 : Int} (hI : gI y pc = some (.imul, n)) (h : LW xs L0 y (pc + 1) L (.int (jI (x1 * x2)) :: st) ψ X P) : LW xs L0 y pc L (.int (jI x2) :: .int (jI x1) :: st) ψ X P :=
  LW_lift h fun lv c d o hl K => J_imul hI (K lv hl)
theorem LW_ineg {x : Int} (hI : gI y pc = some (.ineg, n)) (h : LW xs L0 y (pc + 1) L (.int (jI (-x)) :: st) ψ X P) : LW xs L0 y pc L (.int (jI x) :: st) ψ X P :=
  LW_lift h fun lv c d o hl K => J_ineg hI (K lv hl)
theorem LW_iand {x1 x2 : Int32} (hI : gI y pc = some (.iand, n)) (h : LW xs L0 y (pc + 1) L (.int (x1 &&& x2) :: st) ψ X P) : LW xs L0 y pc L (.int x2 :: .int x1 :: st) ψ X P :=
  LW_lift h fun lv c d o hl K => J_iand hI (K lv hl)
theorem LW_ior {x1 x2 : Int32} (hI : gI y pc = some (.ior, n)) (h : LW xs L0 y (pc + 1) L (.int (x1 ||| x2) :: st) ψ X P) : LW xs L0 y pc L (.int x2 :: .int x1 :: st) ψ X P :=
  LW_lift h fun lv c d o hl K => J_ior hI (K lv hl)
theorem LW_ishl {x1 x2 : Int32} (hI : gI y pc = some (.ishl, n)) (h : LW xs L0 y (pc + 1) L (.int (x1 <<< (x2 &&& 31)) :: st) ψ X P) : LW xs L0 y pc L (.int x2 :: .int x1 :: st) ψ X P :=
  LW_lift h fun lv c d o hl K => J_ishl hI (K lv hl)
theorem LW_ishr {x1 x2 : Int32} (hI : gI y pc = some (.ishr, n)) (h : LW xs L0 y (pc + 1) L (.int (x1 >>> (x2 &&& 31)) :: st) ψ X P) : LW xs L0 y pc L (.int x2 :: .int x1 :: st) ψ X P :=
  LW_lift h fun lv c d o hl K => J_ishr hI (K lv hl)
theorem LW_iadd32 {x1 x2 : Int32} (hI : gI y pc = some (.iadd, n)) (h : LW xs L0 y (pc + 1) L (.int (x1 + x2) :: st) ψ X P) : LW xs L0 y pc L (.int x2 :: .int x1 :: st) ψ X P :=
  LW_lift h fun lv c d o hl K => J_iadd32 hI (K lv hl)
theorem LW_imul32 {x1 x2 : Int32} (hI : gI y pc = some (.imul, n)) (h : LW xs L0 y (pc + 1) L (.int (x1 * x2) :: st) ψ X P) : LW xs L0 y pc L (.int x2 :: .int x1 :: st) ψ X P :=
  LW_lift h fun lv c d o hl K => J_imul32 hI (K lv hl)
theorem LW_irem32 {x1 x2 : Int32} (hI : gI y pc = some (.irem, n)) (h0 : ¬ x2 = 0) (h : LW xs L0 y (pc + 1) L (.int (x1 - x1 / x2 * x2) :: st) ψ X P) : LW xs L0 y pc L (.int x2 :: .int x1 :: st) ψ X P :=
  LW_lift h fun lv c d o hl K => J_irem32 hI h0 (K lv hl)
theorem LW_idiv32 {x1 x2 : Int32} (hI : gI y pc = some (.idiv, n)) (h0 : ¬ x2 = 0) (h : LW xs L0 y (pc + 1) L (.int (x1 / x2) :: st) ψ X P) : LW xs L0 y pc L (.int x2 :: .int x1 :: st) ψ X P :=
  LW_lift h fun lv c d o hl K => J_idiv32 hI h0 (K lv hl)
theorem LW_ladd {x1 x2 : Int64} (hI : gI y pc = some (.ladd, n)) (h : LW xs L0 y (pc + 1) L (.long (x1 + x2) :: st) ψ X P) : LW xs L0 y pc L (.long x2 :: .long x1 :: st) ψ X P :=
  LW_lift h fun lv c d o hl K => J_ladd hI (K lv hl)
theorem LW_lmul {x1 x2 : Int64} (hI : gI y pc = some (.lmul, n)) (h : LW xs L0 y (pc + 1) L (.long (x1 * x2) :: st) ψ X P) : LW xs L0 y pc L (.long x2 :: .long x1 :: st) ψ X P :=
  LW_lift h fun lv c d o hl K => J_lmul hI (K lv hl)
theorem LW_lcmp {x1 x2 : Int64} (hI : gI y pc = some (.lcmp, n)) (h : LW xs L0 y (pc + 1) L (.int (lg_cmp x1 x2) :: st) ψ X P) : LW xs L0 y pc L (.long x2 :: .long x1 :: st) ψ X P :=
  LW_lift h fun lv c d o hl K => J_lcmp hI (K lv hl)
theorem LW_i2l {x : Int32} (hI : gI y pc = some (.i2l, n)) (h : LW xs L0 y (pc + 1) L (.long x.toInt64 :: st) ψ X P) : LW xs L0 y pc L (.int x :: st) ψ X P :=
  LW_lift h fun lv c d o hl K => J_i2l hI (K lv hl)
theorem LW_i2d {x : Int32} (hI : gI y pc = some (.i2d, n)) (h : LW xs L0 y (pc + 1) L (.double (FP.i2d x) :: st) ψ X P) : LW xs L0 y pc L (.int x :: st) ψ X P :=
  LW_lift h fun lv c d o hl K => J_i2d hI (K lv hl)
theorem LW_dup {v : Value} (hI : gI y pc = some (.dup, n)) (hv : v.category = 1) (h : LW xs L0 y (pc + 1) L (v :: v :: st) ψ X P) : LW xs L0 y pc L (v :: st) ψ X P :=
  LW_lift h fun lv c d o hl K => J_dup hI hv (K lv hl)
theorem LW_pop {v : Value} (hI : gI y pc = some (.pop, n)) (hv : v.category = 1) (h : LW xs L0 y (pc + 1) L (st) ψ X P) : LW xs L0 y pc L (v :: st) ψ X P :=
  LW_lift h fun lv c d o hl K => J_pop hI hv (K lv hl)
theorem LW_dup_x1 {v2 v1 : Value} (hI : gI y pc = some (.dup_x1, n)) (h2 : v2.category = 1) (h1 : v1.category = 1) (h : LW xs L0 y (pc + 1) L (v2 :: v1 :: v2 :: st) ψ X P) : LW xs L0 y pc L (v2 :: v1 :: st) ψ X P :=
  LW_lift h fun lv c d o hl K => J_dup_x1 hI h2 h1 (K lv hl)
theorem LW_dup2 {v2 v1 : Value} (hI : gI y pc = some (.dup2, n)) (h2 : v2.category = 1) (h1 : v1.category = 1) (h : LW xs L0 y (pc + 1) L (v2 :: v1 :: v2 :: v1 :: st) ψ X P) : LW xs L0 y pc L (v2 :: v1 :: st) ψ X P :=
  LW_lift h fun lv c d o hl K => J_dup2 hI h2 h1 (K lv hl)
theorem LW_iload {i : Nat} {x : Int32} (hI : gI y pc = some (.iload i, n)) (hlk : L[i]? = some (some (.int x))) (h : LW xs L0 y (pc + 2) L (.int x :: st) ψ X P) : LW xs L0 y pc L (st) ψ X P :=
  LW_lift h fun lv c d o hl K => J_iload hI (hl.2 _ _ hlk) (K lv hl)
theorem LW_iload_n {i : Fin 4} {x : Int32} (hI : gI y pc = some (.iload_n i, n)) (hlk : L[(i : Nat)]? = some (some (.int x))) (h : LW xs L0 y (pc + 1) L (.int x :: st) ψ X P) : LW xs L0 y pc L (st) ψ X P :=
  LW_lift h fun lv c d o hl K => J_iload_n hI (hl.2 _ _ hlk) (K lv hl)
theorem LW_lload {i : Nat} {x : Int64} (hI : gI y pc = some (.lload i, n)) (hlk : L[i]? = some (some (.long x))) (h : LW xs L0 y (pc + 2) L (.long x :: st) ψ X P) : LW xs L0 y pc L (st) ψ X P :=
  LW_lift h fun lv c d o hl K => J_lload hI (hl.2 _ _ hlk) (K lv hl)
theorem LW_lload_n {i : Fin 4} {x : Int64} (hI : gI y pc = some (.lload_n i, n)) (hlk : L[(i : Nat)]? = some (some (.long x))) (h : LW xs L0 y (pc + 1) L (.long x :: st) ψ X P) : LW xs L0 y pc L (st) ψ X P :=
  LW_lift h fun lv c d o hl K => J_lload_n hI (hl.2 _ _ hlk) (K lv hl)
theorem LW_dload {i : Nat} {x : UInt64} (hI : gI y pc = some (.dload i, n)) (hlk : L[i]? = some (some (.double x))) (h : LW xs L0 y (pc + 2) L (.double x :: st) ψ X P) : LW xs L0 y pc L (st) ψ X P :=
  LW_lift h fun lv c d o hl K => J_dload hI (hl.2 _ _ hlk) (K lv hl)
theorem LW_dload_n {i : Fin 4} {x : UInt64} (hI : gI y pc = some (.dload_n i, n)) (hlk : L[(i : Nat)]? = some (some (.double x))) (h : LW xs L0 y (pc + 1) L (.double x :: st) ψ X P) : LW xs L0 y pc L (st) ψ X P :=
  LW_lift h fun lv c d o hl K => J_dload_n hI (hl.2 _ _ hlk) (K lv hl)
theorem LW_aload {i : Nat} {x : Nat} (hI : gI y pc = some (.aload i, n)) (hlk : L[i]? = some (some (.ref x))) (h : LW xs L0 y (pc + 2) L (.ref x :: st) ψ X P) : LW xs L0 y pc L (st) ψ X P :=
  LW_lift h fun lv c d o hl K => J_aload hI (hl.2 _ _ hlk) (K lv hl)
theorem LW_aload_n {i : Fin 4} {x : Nat} (hI : gI y pc = some (.aload_n i, n)) (hlk : L[(i : Nat)]? = some (some (.ref x))) (h : LW xs L0 y (pc + 1) L (.ref x :: st) ψ X P) : LW xs L0 y pc L (st) ψ X P :=
  LW_lift h fun lv c d o hl K => J_aload_n hI (hl.2 _ _ hlk) (K lv hl)
theorem LW_istore {i : Nat} {x : Int32} (hI : gI y pc = some (.istore i, n)) (hi : i < gLo y) (hn : j_n2 L i = true) (h : LW xs L0 y (pc + 2) (L.set i (some (.int x))) (st) ψ X P) : LW xs L0 y pc L (.int x :: st) ψ X P :=
  LW_lift h fun lv c d o hl K => J_istore hI hi (K _ (jQ_st1 hl hn rfl))
theorem LW_istore_n {i : Fin 4} {x : Int32} (hI : gI y pc = some (.istore_n i, n)) (hi : (i : Nat) < gLo y) (hn : j_n2 L (i : Nat) = true) (h : LW xs L0 y (pc + 1) (L.set (i : Nat) (some (.int x))) (st) ψ X P) : LW xs L0 y pc L (.int x :: st) ψ X P :=
  LW_lift h fun lv c d o hl K => J_istore_n hI hi (K _ (jQ_st1 hl hn rfl))
theorem LW_astore {i : Nat} {x : Nat} (hI : gI y pc = some (.astore i, n)) (hi : i < gLo y) (hn : j_n2 L i = true) (ha : x < X.1) (h : LW xs L0 y (pc + 2) (L.set i (some (.ref x))) (st) ψ X P) : LW xs L0 y pc L (.ref x :: st) ψ X P :=
  LW_lift h fun lv c d o hl K => J_astore hI hi (K _ (jQ_st1 hl hn (decide_eq_true ha)))
theorem LW_astore_n {i : Fin 4} {x : Nat} (hI : gI y pc = some (.astore_n i, n)) (hi : (i : Nat) < gLo y) (hn : j_n2 L (i : Nat) = true) (ha : x < X.1) (h : LW xs L0 y (pc + 1) (L.set (i : Nat) (some (.ref x))) (st) ψ X P) : LW xs L0 y pc L (.ref x :: st) ψ X P :=
  LW_lift h fun lv c d o hl K => J_astore_n hI hi (K _ (jQ_st1 hl hn (decide_eq_true ha)))
theorem LW_lstore {i : Nat} {x : Int64} (hI : gI y pc = some (.lstore i, n)) (hi : i + 1 < gLo y) (hn : j_n2 L i = true) (h : LW xs L0 y (pc + 2) ((L.set (i + 1) none).set i (some (.long x))) (st) ψ X P) : LW xs L0 y pc L (.long x :: st) ψ X P :=
  LW_lift h fun lv c d o hl K => J_lstore hI hi (K _ (jQ_st2 hl hn rfl))
theorem LW_lstore_n {i : Fin 4} {x : Int64} (hI : gI y pc = some (.lstore_n i, n)) (hi : (i : Nat) + 1 < gLo y) (hn : j_n2 L (i : Nat) = true) (h : LW xs L0 y (pc + 1) ((L.set ((i : Nat) + 1) none).set (i : Nat) (some (.long x))) (st) ψ X P) : LW xs L0 y pc L (.long x :: st) ψ X P :=
  LW_lift h fun lv c d o hl K => J_lstore_n hI hi (K _ (jQ_st2 hl hn rfl))
theorem LW_dstore {i : Nat} {x : UInt64} (hI : gI y pc = some (.dstore i, n)) (hi : i + 1 < gLo y) (hn : j_n2 L i = true) (h : LW xs L0 y (pc + 2) ((L.set (i + 1) none).set i (some (.double x))) (st) ψ X P) : LW xs L0 y pc L (.double x :: st) ψ X P :=
  LW_lift h fun lv c d o hl K => J_dstore hI hi (K _ (jQ_st2 hl hn rfl))
theorem LW_dstore_n {i : Fin 4} {x : UInt64} (hI : gI y pc = some (.dstore_n i, n)) (hi : (i : Nat) + 1 < gLo y) (hn : j_n2 L (i : Nat) = true) (h : LW xs L0 y (pc + 1) ((L.set ((i : Nat) + 1) none).set (i : Nat) (some (.double x))) (st) ψ X P) : LW xs L0 y pc L (.double x :: st) ψ X P :=
  LW_lift h fun lv c d o hl K => J_dstore_n hI hi (K _ (jQ_st2 hl hn rfl))
theorem LW_iinc {i : Nat} {v x : Int} (hI : gI y pc = some (.iinc i v, n)) (hlk : L[i]? = some (some (.int (jI x)))) (hi : i < gLo y) (hn : j_n2 L i = true) (h : LW xs L0 y (pc + 3) (L.set i (some (.int (jI (x + v))))) (st) ψ X P) : LW xs L0 y pc L (st) ψ X P :=
  LW_lift h fun lv c d o hl K => J_iinc hI (hl.2 _ _ hlk) hi (K _ (jQ_st1 hl hn rfl))
theorem LW_ldc {ix j : Nat} {x : Int32} (hI : gI y pc = some (.ldc ix, n)) (hc : gCs y ix = some (.int x, j)) (h : LW xs L0 y (pc + 2) L (.int x :: st) ψ X P) : LW xs L0 y pc L (st) ψ X P :=
  LW_lift h fun lv c d o hl K => J_ldc hI hc (K lv hl)
theorem LW_ldcw {ix j : Nat} {x : Int32} (hI : gI y pc = some (.ldc_w ix, n)) (hc : gCs y ix = some (.int x, j)) (h : LW xs L0 y (pc + 3) L (.int x :: st) ψ X P) : LW xs L0 y pc L (st) ψ X P :=
  LW_lift h fun lv c d o hl K => J_ldcw hI hc (K lv hl)
theorem LW_isub32 {x1 x2 : Int32} (hI : gI y pc = some (.isub, n)) (h : LW xs L0 y (pc + 1) L (.int (x1 - x2) :: st) ψ X P) : LW xs L0 y pc L (.int x2 :: .int x1 :: st) ψ X P :=
  LW_lift h fun lv c d o hl K => J_isub32 hI (K lv hl)
theorem LW_ldc2l {ix j : Nat} {x : Int64} (hI : gI y pc = some (.ldc2_w ix, n)) (hc : gCs y ix = some (.long x, j)) (h : LW xs L0 y (pc + 3) L (.long x :: st) ψ X P) : LW xs L0 y pc L (st) ψ X P :=
  LW_lift h fun lv c d o hl K => J_ldc2l hI hc (K lv hl)
theorem LW_ldc2d {ix j : Nat} {x : UInt64} (hI : gI y pc = some (.ldc2_w ix, n)) (hc : gCs y ix = some (.double x, j)) (h : LW xs L0 y (pc + 3) L (.double x :: st) ψ X P) : LW xs L0 y pc L (st) ψ X P :=
  LW_lift h fun lv c d o hl K => J_ldc2d hI hc (K lv hl)
theorem LW_iushr {x1 x2 : Int32} (hI : gI y pc = some (.iushr, n)) (h : LW xs L0 y (pc + 1) L (.int (x1.toUInt32 >>> (x2.toUInt32 &&& Int32.toUInt32 31)).toInt32 :: st) ψ X P) : LW xs L0 y pc L (.int x2 :: .int x1 :: st) ψ X P :=
  LW_lift h fun lv c d o hl K => J_iushr hI (K lv hl)
theorem LW_dconst0  (hI : gI y pc = some (.dconst 0, n)) (h : LW xs L0 y (pc + 1) L (.double FP.dconst0 :: st) ψ X P) : LW xs L0 y pc L (st) ψ X P :=
  LW_lift h fun lv c d o hl K => J_dconst0 hI (K lv hl)
theorem LW_dcmpl {x1 x2 : UInt64} (hI : gI y pc = some (.dcmp .l, n)) (h : LW xs L0 y (pc + 1) L (.int (Op.cmpValue (FP.dcmp x1 x2) .l) :: st) ψ X P) : LW xs L0 y pc L (.double x2 :: .double x1 :: st) ψ X P :=
  LW_lift h fun lv c d o hl K => J_dcmpl hI (K lv hl)
theorem LW_ddiv {x1 x2 : UInt64} (hI : gI y pc = some (.ddiv, n)) (hn : FP.ddiv x1 x2 &&& 0x7fffffffffffffff ≤ 0x7ff0000000000000) (h : LW xs L0 y (pc + 1) L (.double (FP.ddiv x1 x2) :: st) ψ X P) : LW xs L0 y pc L (.double x2 :: .double x1 :: st) ψ X P :=
  LW_lift h fun lv c d o hl K => J_ddiv hI hn (K lv hl)
theorem LW_dmul {x1 x2 : UInt64} (hI : gI y pc = some (.dmul, n)) (hn : FP.dmul x1 x2 &&& 0x7fffffffffffffff ≤ 0x7ff0000000000000) (h : LW xs L0 y (pc + 1) L (.double (FP.dmul x1 x2) :: st) ψ X P) : LW xs L0 y pc L (.double x2 :: .double x1 :: st) ψ X P :=
  LW_lift h fun lv c d o hl K => J_dmul hI hn (K lv hl)
theorem LW_dsub {x1 x2 : UInt64} (hI : gI y pc = some (.dsub, n)) (hn : FP.dsub x1 x2 &&& 0x7fffffffffffffff ≤ 0x7ff0000000000000) (h : LW xs L0 y (pc + 1) L (.double (FP.dsub x1 x2) :: st) ψ X P) : LW xs L0 y pc L (.double x2 :: .double x1 :: st) ψ X P :=
  LW_lift h fun lv c d o hl K => J_dsub hI hn (K lv hl)
theorem LW_idivI {x1 x2 : Int} (hI : gI y pc = some (.idiv, n)) (h0 : 0 ≤ x1) (h1 : x1 ≤ 2147483647) (h2 : 0 < x2) (h3 : x2 ≤ 2147483647) (h : LW xs L0 y (pc + 1) L (.int (jI (x1 / x2)) :: st) ψ X P) : LW xs L0 y pc L (.int (jI x2) :: .int (jI x1) :: st) ψ X P :=
  LW_lift h fun lv c d o hl K => J_idivI hI h0 h1 h2 h3 (K lv hl)
theorem LW_iremI {x1 x2 : Int} (hI : gI y pc = some (.irem, n)) (h0 : 0 ≤ x1) (h1 : x1 ≤ 2147483647) (h2 : 0 < x2) (h3 : x2 ≤ 2147483647) (h : LW xs L0 y (pc + 1) L (.int (jI (x1 % x2)) :: st) ψ X P) : LW xs L0 y pc L (.int (jI x2) :: .int (jI x1) :: st) ψ X P :=
  LW_lift h fun lv c d o hl K => J_iremI hI h0 h1 h2 h3 (K lv hl)
theorem LW_max {ix z na : Nat} {rs : Nat × Nat × Nat × Nat × Nat × Option String} {x1 x2 : Int} (hI : gI y pc = some (.invokestatic ix, n)) (hv : gIv y ix = some (z, na, 101, rs)) (hs : (st.map fun v => v.category).sum ≤ 8) (hf : 1 ≤ gF y ∧ 21 ≤ gW y) (r1 : -2147483648 ≤ x1 ∧ x1 ≤ 2147483647) (r2 : -2147483648 ≤ x2 ∧ x2 ≤ 2147483647) (h : LW xs L0 y (pc + 3) L (.int (jI (if x1 < x2 then x2 else x1)) :: st) ψ X P) : LW xs L0 y pc L (.int (jI x2) :: .int (jI x1) :: st) ψ X P :=
  LW_lift h fun lv c d o hl K => J_max hI hv hs hf r1 r2 (K lv hl)
theorem LW_min {ix z na : Nat} {rs : Nat × Nat × Nat × Nat × Nat × Option String} {x1 x2 : Int} (hI : gI y pc = some (.invokestatic ix, n)) (hv : gIv y ix = some (z, na, 102, rs)) (hs : (st.map fun v => v.category).sum ≤ 8) (hf : 1 ≤ gF y ∧ 21 ≤ gW y) (r1 : -2147483648 ≤ x1 ∧ x1 ≤ 2147483647) (r2 : -2147483648 ≤ x2 ∧ x2 ≤ 2147483647) (h : LW xs L0 y (pc + 3) L (.int (jI (if x2 < x1 then x2 else x1)) :: st) ψ X P) : LW xs L0 y pc L (.int (jI x2) :: .int (jI x1) :: st) ψ X P :=
  LW_lift h fun lv c d o hl K => J_min hI hv hs hf r1 r2 (K lv hl)
theorem LW_abs {ix z na : Nat} {rs : Nat × Nat × Nat × Nat × Nat × Option String} {x : Int} (hI : gI y pc = some (.invokestatic ix, n)) (hv : gIv y ix = some (z, na, 103, rs)) (hs : (st.map fun v => v.category).sum ≤ 8) (hf : 1 ≤ gF y ∧ 21 ≤ gW y) (r1 : -2147483647 ≤ x ∧ x ≤ 2147483647) (h : LW xs L0 y (pc + 3) L (.int (jI (if 0 ≤ x then x else -x)) :: st) ψ X P) : LW xs L0 y pc L (.int (jI x) :: st) ψ X P :=
  LW_lift h fun lv c d o hl K => J_abs hI hv hs hf r1 (K lv hl)
theorem LW_absd {ix z na : Nat} {rs : Nat × Nat × Nat × Nat × Nat × Option String} {x : UInt64} (hI : gI y pc = some (.invokestatic ix, n)) (hv : gIv y ix = some (z, na, 107, rs)) (hs : (st.map fun v => v.category).sum ≤ 8) (hf : 1 ≤ gF y ∧ 21 ≤ gW y) (hn : x &&& 0x7fffffffffffffff ≤ 0x7ff0000000000000) (h : LW xs L0 y (pc + 3) L (.double (x &&& 0x7fffffffffffffff) :: st) ψ X P) : LW xs L0 y pc L (.double x :: st) ψ X P :=
  LW_lift h fun lv c d o hl K => J_absd hI hv hs hf hn (K lv hl)
theorem LW_sld {x : Int} (hI : gI y pc = some (.iaload, n)) (h0 : 0 ≤ x) (h1 : x < (L0 : Int)) (hn : L0 ≤ 65536) (h : LW xs L0 y (pc + 1) L (.int (xs x.toNat) :: st) ψ X P) : LW xs L0 y pc L (.int (jI x) :: .ref 0 :: st) ψ X P :=
  LW_lift h fun lv c d o hl K => J_sld hI h0 h1 hn (K lv hl)
theorem LW_slen  (hI : gI y pc = some (.arraylength, n)) (h : LW xs L0 y (pc + 1) L (.int (jI (L0 : Int)) :: st) ψ X P) : LW xs L0 y pc L (.ref 0 :: st) ψ X P :=
  LW_lift h fun lv c d o hl K => J_slen hI (K lv hl)
theorem LW_goto {off : Int} {tg : Nat} (hI : gI y pc = some (.goto off, n)) (ht : g_tg pc off = some tg) (h : LW xs L0 y tg L st ψ X P) : LW xs L0 y pc L st ψ X P :=
  LW_lift h fun lv c d o hl K => J_goto hI ht (K lv hl)
theorem LW_tsw {df lo hi : Int} {offs : Array Int} {x : Int} {tg : Nat} (hI : gI y pc = some (.tableswitch df lo hi offs, n)) (r : -2147483648 ≤ x ∧ x ≤ 2147483647) (ht : (if x < lo ∨ hi < x then g_tg pc df else (offs[(x - lo).toNat]?).bind (g_tg pc)) = some tg) (h : LW xs L0 y tg L st ψ X P) : LW xs L0 y pc L (.int (jI x) :: st) ψ X P :=
  LW_lift h fun lv c d o hl K => J_tsw hI r ht (K lv hl)
theorem LW_iceq {off : Int} {tg : Nat} {x1 x2 : Int} (hI : gI y pc = some (.if_icmp .eq off, n)) (ht : g_tg pc off = some tg) (r1 : -2147483648 ≤ x1 ∧ x1 ≤ 2147483647) (r2 : -2147483648 ≤ x2 ∧ x2 ≤ 2147483647) (hT : x1 = x2 → LW xs L0 y tg L st ψ X P) (hF : ¬ x1 = x2 → LW xs L0 y (pc + 3) L st ψ X P) : LW xs L0 y pc L (.int (jI x2) :: .int (jI x1) :: st) ψ X P := by
  by_cases q : x1 = x2
  · exact LW_lift (hT q) fun lv c d o hl K => J_iceq hI ht r1 r2 (fun _ => K lv hl) (fun z => absurd z (by omega))
  · exact LW_lift (hF (q)) fun lv c d o hl K => J_iceq hI ht r1 r2 (fun z => absurd z q) (fun _ => K lv hl)
theorem LW_ifeq {off : Int} {tg : Nat} {x : Int} (hI : gI y pc = some (.ifCond .eq off, n)) (ht : g_tg pc off = some tg) (r : -2147483648 ≤ x ∧ x ≤ 2147483647) (hT : x = 0 → LW xs L0 y tg L st ψ X P) (hF : ¬ x = 0 → LW xs L0 y (pc + 3) L st ψ X P) : LW xs L0 y pc L (.int (jI x) :: st) ψ X P := by
  by_cases q : x = 0
  · exact LW_lift (hT q) fun lv c d o hl K => J_ifeq hI ht r (fun _ => K lv hl) (fun z => absurd z (by omega))
  · exact LW_lift (hF (q)) fun lv c d o hl K => J_ifeq hI ht r (fun z => absurd z q) (fun _ => K lv hl)
theorem LW_icne {off : Int} {tg : Nat} {x1 x2 : Int} (hI : gI y pc = some (.if_icmp .ne off, n)) (ht : g_tg pc off = some tg) (r1 : -2147483648 ≤ x1 ∧ x1 ≤ 2147483647) (r2 : -2147483648 ≤ x2 ∧ x2 ≤ 2147483647) (hT : ¬ x1 = x2 → LW xs L0 y tg L st ψ X P) (hF : x1 = x2 → LW xs L0 y (pc + 3) L st ψ X P) : LW xs L0 y pc L (.int (jI x2) :: .int (jI x1) :: st) ψ X P := by
  by_cases q : ¬ x1 = x2
  · exact LW_lift (hT q) fun lv c d o hl K => J_icne hI ht r1 r2 (fun _ => K lv hl) (fun z => absurd z (by omega))
  · exact LW_lift (hF (Classical.not_not.mp q)) fun lv c d o hl K => J_icne hI ht r1 r2 (fun z => absurd z q) (fun _ => K lv hl)
theorem LW_ifne {off : Int} {tg : Nat} {x : Int} (hI : gI y pc = some (.ifCond .ne off, n)) (ht : g_tg pc off = some tg) (r : -2147483648 ≤ x ∧ x ≤ 2147483647) (hT : ¬ x = 0 → LW xs L0 y tg L st ψ X P) (hF : x = 0 → LW xs L0 y (pc + 3) L st ψ X P) : LW xs L0 y pc L (.int (jI x) :: st) ψ X P := by
  by_cases q : ¬ x = 0
  · exact LW_lift (hT q) fun lv c d o hl K => J_ifne hI ht r (fun _ => K lv hl) (fun z => absurd z (by omega))
  · exact LW_lift (hF (Classical.not_not.mp q)) fun lv c d o hl K => J_ifne hI ht r (fun z => absurd z q) (fun _ => K lv hl)
theorem LW_iclt {off : Int} {tg : Nat} {x1 x2 : Int} (hI : gI y pc = some (.if_icmp .lt off, n)) (ht : g_tg pc off = some tg) (r1 : -2147483648 ≤ x1 ∧ x1 ≤ 2147483647) (r2 : -2147483648 ≤ x2 ∧ x2 ≤ 2147483647) (hT : x1 < x2 → LW xs L0 y tg L st ψ X P) (hF : x2 ≤ x1 → LW xs L0 y (pc + 3) L st ψ X P) : LW xs L0 y pc L (.int (jI x2) :: .int (jI x1) :: st) ψ X P := by
  by_cases q : x1 < x2
  · exact LW_lift (hT q) fun lv c d o hl K => J_iclt hI ht r1 r2 (fun _ => K lv hl) (fun z => absurd z (by omega))
  · exact LW_lift (hF (Int.not_lt.mp q)) fun lv c d o hl K => J_iclt hI ht r1 r2 (fun z => absurd z q) (fun _ => K lv hl)
theorem LW_iflt {off : Int} {tg : Nat} {x : Int} (hI : gI y pc = some (.ifCond .lt off, n)) (ht : g_tg pc off = some tg) (r : -2147483648 ≤ x ∧ x ≤ 2147483647) (hT : x < 0 → LW xs L0 y tg L st ψ X P) (hF : 0 ≤ x → LW xs L0 y (pc + 3) L st ψ X P) : LW xs L0 y pc L (.int (jI x) :: st) ψ X P := by
  by_cases q : x < 0
  · exact LW_lift (hT q) fun lv c d o hl K => J_iflt hI ht r (fun _ => K lv hl) (fun z => absurd z (by omega))
  · exact LW_lift (hF (Int.not_lt.mp q)) fun lv c d o hl K => J_iflt hI ht r (fun z => absurd z q) (fun _ => K lv hl)
theorem LW_icge {off : Int} {tg : Nat} {x1 x2 : Int} (hI : gI y pc = some (.if_icmp .ge off, n)) (ht : g_tg pc off = some tg) (r1 : -2147483648 ≤ x1 ∧ x1 ≤ 2147483647) (r2 : -2147483648 ≤ x2 ∧ x2 ≤ 2147483647) (hT : x2 ≤ x1 → LW xs L0 y tg L st ψ X P) (hF : x1 < x2 → LW xs L0 y (pc + 3) L st ψ X P) : LW xs L0 y pc L (.int (jI x2) :: .int (jI x1) :: st) ψ X P := by
  by_cases q : x2 ≤ x1
  · exact LW_lift (hT q) fun lv c d o hl K => J_icge hI ht r1 r2 (fun _ => K lv hl) (fun z => absurd z (by omega))
  · exact LW_lift (hF (Int.not_le.mp q)) fun lv c d o hl K => J_icge hI ht r1 r2 (fun z => absurd z q) (fun _ => K lv hl)
theorem LW_ifge {off : Int} {tg : Nat} {x : Int} (hI : gI y pc = some (.ifCond .ge off, n)) (ht : g_tg pc off = some tg) (r : -2147483648 ≤ x ∧ x ≤ 2147483647) (hT : 0 ≤ x → LW xs L0 y tg L st ψ X P) (hF : x < 0 → LW xs L0 y (pc + 3) L st ψ X P) : LW xs L0 y pc L (.int (jI x) :: st) ψ X P := by
  by_cases q : 0 ≤ x
  · exact LW_lift (hT q) fun lv c d o hl K => J_ifge hI ht r (fun _ => K lv hl) (fun z => absurd z (by omega))
  · exact LW_lift (hF (Int.not_le.mp q)) fun lv c d o hl K => J_ifge hI ht r (fun z => absurd z q) (fun _ => K lv hl)
theorem LW_icgt {off : Int} {tg : Nat} {x1 x2 : Int} (hI : gI y pc = some (.if_icmp .gt off, n)) (ht : g_tg pc off = some tg) (r1 : -2147483648 ≤ x1 ∧ x1 ≤ 2147483647) (r2 : -2147483648 ≤ x2 ∧ x2 ≤ 2147483647) (hT : x2 < x1 → LW xs L0 y tg L st ψ X P) (hF : x1 ≤ x2 → LW xs L0 y (pc + 3) L st ψ X P) : LW xs L0 y pc L (.int (jI x2) :: .int (jI x1) :: st) ψ X P := by
  by_cases q : x2 < x1
  · exact LW_lift (hT q) fun lv c d o hl K => J_icgt hI ht r1 r2 (fun _ => K lv hl) (fun z => absurd z (by omega))
  · exact LW_lift (hF (Int.not_lt.mp q)) fun lv c d o hl K => J_icgt hI ht r1 r2 (fun z => absurd z q) (fun _ => K lv hl)
theorem LW_ifgt {off : Int} {tg : Nat} {x : Int} (hI : gI y pc = some (.ifCond .gt off, n)) (ht : g_tg pc off = some tg) (r : -2147483648 ≤ x ∧ x ≤ 2147483647) (hT : 0 < x → LW xs L0 y tg L st ψ X P) (hF : x ≤ 0 → LW xs L0 y (pc + 3) L st ψ X P) : LW xs L0 y pc L (.int (jI x) :: st) ψ X P := by
  by_cases q : 0 < x
  · exact LW_lift (hT q) fun lv c d o hl K => J_ifgt hI ht r (fun _ => K lv hl) (fun z => absurd z (by omega))
  · exact LW_lift (hF (Int.not_lt.mp q)) fun lv c d o hl K => J_ifgt hI ht r (fun z => absurd z q) (fun _ => K lv hl)
theorem LW_icle {off : Int} {tg : Nat} {x1 x2 : Int} (hI : gI y pc = some (.if_icmp .le off, n)) (ht : g_tg pc off = some tg) (r1 : -2147483648 ≤ x1 ∧ x1 ≤ 2147483647) (r2 : -2147483648 ≤ x2 ∧ x2 ≤ 2147483647) (hT : x1 ≤ x2 → LW xs L0 y tg L st ψ X P) (hF : x2 < x1 → LW xs L0 y (pc + 3) L st ψ X P) : LW xs L0 y pc L (.int (jI x2) :: .int (jI x1) :: st) ψ X P := by
  by_cases q : x1 ≤ x2
  · exact LW_lift (hT q) fun lv c d o hl K => J_icle hI ht r1 r2 (fun _ => K lv hl) (fun z => absurd z (by omega))
  · exact LW_lift (hF (Int.not_le.mp q)) fun lv c d o hl K => J_icle hI ht r1 r2 (fun z => absurd z q) (fun _ => K lv hl)
theorem LW_ifle {off : Int} {tg : Nat} {x : Int} (hI : gI y pc = some (.ifCond .le off, n)) (ht : g_tg pc off = some tg) (r : -2147483648 ≤ x ∧ x ≤ 2147483647) (hT : x ≤ 0 → LW xs L0 y tg L st ψ X P) (hF : 0 < x → LW xs L0 y (pc + 3) L st ψ X P) : LW xs L0 y pc L (.int (jI x) :: st) ψ X P := by
  by_cases q : x ≤ 0
  · exact LW_lift (hT q) fun lv c d o hl K => J_ifle hI ht r (fun _ => K lv hl) (fun z => absurd z (by omega))
  · exact LW_lift (hF (Int.not_le.mp q)) fun lv c d o hl K => J_ifle hI ht r (fun z => absurd z q) (fun _ => K lv hl)
theorem LW_gI {ix ci k a key : Nat} {q : Nat × Option String × String} {tm : List (Option Nat)} (hI : gI y pc = some (.getfield ix, n)) (hf : gFld y ix = some (ci, k, q)) (hX : 131 ≤ X.1) (hk : jSk.getD a none = some (.inl (ci, tm))) (ht : tm[k]? = some none) (he : 20 * ci + k = key) (h : LW xs L0 y (pc + 3) L (.int (jI (ψ a key)) :: st) ψ X P) : LW xs L0 y pc L (.ref a :: st) ψ X P :=
  LW_lift h fun lv c d o hl K => J_gI hI hf hX hk ht he (K lv hl)
theorem LW_gR {ix ci k a r : Nat} {q : Nat × Option String × String} {tm : List (Option Nat)} (hI : gI y pc = some (.getfield ix, n)) (hf : gFld y ix = some (ci, k, q)) (hX : 131 ≤ X.1) (hk : jSk.getD a none = some (.inl (ci, tm))) (ht : tm[k]? = some (some r)) (h : LW xs L0 y (pc + 3) L (.ref r :: st) ψ X P) : LW xs L0 y pc L (.ref a :: st) ψ X P :=
  LW_lift h fun lv c d o hl K => J_gR hI hf hX hk ht (K lv hl)
theorem LW_aald {a tag nn s : Nat} {x : Int} (hI : gI y pc = some (.aaload, n)) (hX : 131 ≤ X.1) (hk : jRow a tag nn s) (ho : g_obj tag = true) (h0 : 0 ≤ x) (h1 : x < (nn : Int)) (hn : nn ≤ 1000) (h : LW xs L0 y (pc + 1) L (.ref (a + 1 + s * x.toNat) :: st) ψ X P) : LW xs L0 y pc L (.int (jI x) :: .ref a :: st) ψ X P :=
  LW_lift h fun lv c d o hl K => J_aald hI hX hk ho h0 h1 hn (K lv hl)
theorem LW_minz {ix z0 na : Nat} {rs : Nat × Nat × Nat × Nat × Nat × Option String} {x1 x2 : Int} (hI : gI y pc = some (.invokestatic ix, n)) (hv : gIv y ix = some (z0, na, 102, rs)) (hs : (st.map fun v => v.category).sum ≤ 8) (hf : 1 ≤ gF y ∧ 21 ≤ gW y) (r1 : -2147483648 ≤ x1 ∧ x1 ≤ 2147483647) (r2 : -2147483648 ≤ x2 ∧ x2 ≤ 2147483647) (h : ∀ z : Int, z ≤ x1 ∧ z ≤ x2 ∧ (z = x1 ∨ z = x2) → LW xs L0 y (pc + 3) L (.int (jI z) :: st) ψ X P) : LW xs L0 y pc L (.int (jI x2) :: .int (jI x1) :: st) ψ X P :=
  LW_min hI hv hs hf r1 r2 (h _ (by split <;> omega))
theorem LW_maxz {ix z0 na : Nat} {rs : Nat × Nat × Nat × Nat × Nat × Option String} {x1 x2 : Int} (hI : gI y pc = some (.invokestatic ix, n)) (hv : gIv y ix = some (z0, na, 101, rs)) (hs : (st.map fun v => v.category).sum ≤ 8) (hf : 1 ≤ gF y ∧ 21 ≤ gW y) (r1 : -2147483648 ≤ x1 ∧ x1 ≤ 2147483647) (r2 : -2147483648 ≤ x2 ∧ x2 ≤ 2147483647) (h : ∀ z : Int, x1 ≤ z ∧ x2 ≤ z ∧ (z = x1 ∨ z = x2) → LW xs L0 y (pc + 3) L (.int (jI z) :: st) ψ X P) : LW xs L0 y pc L (.int (jI x2) :: .int (jI x1) :: st) ψ X P :=
  LW_max hI hv hs hf r1 r2 (h _ (by split <;> omega))
theorem LW_absz {ix z0 na : Nat} {rs : Nat × Nat × Nat × Nat × Nat × Option String} {x : Int} (hI : gI y pc = some (.invokestatic ix, n)) (hv : gIv y ix = some (z0, na, 103, rs)) (hs : (st.map fun v => v.category).sum ≤ 8) (hf : 1 ≤ gF y ∧ 21 ≤ gW y) (r1 : -2147483647 ≤ x ∧ x ≤ 2147483647) (h : ∀ z : Int, 0 ≤ z ∧ (z = x ∨ z = -x) → LW xs L0 y (pc + 3) L (.int (jI z) :: st) ψ X P) : LW xs L0 y pc L (.int (jI x) :: st) ψ X P :=
  LW_abs hI hv hs hf r1 (h _ (by split <;> omega))
theorem LW_gB {ix ci k a key : Nat} {q : Nat × Option String × String} {tm : List (Option Nat)} (hI : gI y pc = some (.getfield ix, n)) (hf : gFld y ix = some (ci, k, q)) (hX : 131 ≤ X.1) (hk : jSk.getD a none = some (.inl (ci, tm))) (ht : tm[k]? = some none) (he : 20 * ci + k = key) (hG : jG ψ) (h : -60000 ≤ ψ a key → ψ a key ≤ 60000 → LW xs L0 y (pc + 3) L (.int (jI (ψ a key)) :: st) ψ X P) : LW xs L0 y pc L (.ref a :: st) ψ X P :=
  LW_gI hI hf hX hk ht he (h (hG a key).1 (hG a key).2)
theorem LW_iret {v : Int} (hI : gI y pc = some (.ireturn, n)) (hR : gR y = some .int) (hP : P v ψ X) : LW xs L0 y pc L [.int (jI v)] ψ X P :=
  ⟨v, ψ, X, 0, hP, Nat.le_refl _, Nat.zero_le _, fun lv c d hl => by rw [Nat.sub_self]; exact J_iret hI hR⟩
theorem LW_zret {v : Int} (hI : gI y pc = some (.ireturn, n)) (hR : gR y = some .boolean) (hv : v = 0 ∨ v = 1) (hP : P v ψ X) : LW xs L0 y pc L [.int (jI v)] ψ X P :=
  ⟨v, ψ, X, 0, hP, Nat.le_refl _, Nat.zero_le _, fun lv c d hl => by rw [Nat.sub_self]; exact J_zret2 hI hR hv⟩
theorem LW_newarr {x : Int} (hI : gI y pc = some (.newarray .int, n)) (h0 : 0 ≤ x) (h1 : x ≤ 18) (hX : 131 ≤ X.1) (hst : st.all (g_ok X.1) = true) (h : LW xs L0 y (pc + 2) L (.ref X.1 :: st) ψ (X.1 + 1, va_up X.2 X.1 (some (.inr (0, x.toNat, .inl (fun _ => 0))))) P) : LW xs L0 y pc L (.int (jI x) :: st) ψ X P := by
  obtain ⟨v, ψ', X', nd, hP, h2, h3, hr⟩ := h
  have h2' : X.1 + 1 ≤ X'.1 := h2
  have h3' : nd ≤ 18 * (X'.1 - (X.1 + 1)) := h3
  refine ⟨v, ψ', X', x.toNat + nd, hP, by omega, by omega, fun lv c d hl => ?_⟩
  have h9 := hr lv (c + 1) (d + x.toNat) (jQ_le (Nat.le_succ _) hl)
  have e1 : c + 1 + (X'.1 - (X.1 + 1)) = c + (X'.1 - X.1) := by omega
  have e2 : d + x.toNat + nd = d + (x.toNat + nd) := by omega
  rw [show ((X.1 + 1, va_up X.2 X.1 (some (.inr (0, x.toNat, .inl (fun _ => 0))))) : gM).1 = X.1 + 1 from rfl, e1, e2] at h9
  rw [← jM_nx _ hX] at h9
  exact J_newarr hI h0 (by omega) hl.1 hst h9
theorem jX_rd {a : Nat} (ha : 131 ≤ a) (hb : a < X.1) : g_rd (jM ψ X) a = X.2 a := by
  rw [jM_rx ha]
  unfold g_rd
  rw [if_pos hb]
theorem LW_iald {a nn : Nat} {f : Nat → Int32} {x : Int} (hI : gI y pc = some (.iaload, n)) (ha : 131 ≤ a) (hb : a < X.1) (hr : X.2 a = some (.inr (0, nn, .inl f))) (h0 : 0 ≤ x) (h1 : x < (nn : Int)) (hn : nn ≤ 65536) (h : LW xs L0 y (pc + 1) L (.int (f x.toNat) :: st) ψ X P) : LW xs L0 y pc L (.int (jI x) :: .ref a :: st) ψ X P :=
  LW_lift h fun lv c d o hl K => J_iald hI (by omega) (by rw [jX_rd ha hb]; exact hr) h0 h1 hn (K lv hl)
theorem LW_iast {a nn : Nat} {f : Nat → Int32} {x : Int} {w : Int32} (hI : gI y pc = some (.iastore, n)) (ha : 131 ≤ a) (hb : a < X.1) (hr : X.2 a = some (.inr (0, nn, .inl f))) (h0 : 0 ≤ x) (h1 : x < (nn : Int)) (hn : nn ≤ 65536) (h : LW xs L0 y (pc + 1) L st ψ (X.1, va_up X.2 a (some (.inr (0, nn, .inl (upd f x.toNat w))))) P) : LW xs L0 y pc L (.int w :: .int (jI x) :: .ref a :: st) ψ X P := by
  obtain ⟨v, ψ', X', nd, hP, h2, h3, hr2⟩ := h
  refine ⟨v, ψ', X', nd, hP, h2, h3, fun lv c d hl => ?_⟩
  have h9 := hr2 lv c d hl
  rw [← jM_wx _ ha] at h9
  exact J_iast hI (by rw [jX_rd ha hb]; exact hr) h0 h1 hn h9
/-- a call on an object of the class; E: what is thrown is caught at hh -/
theorem LW_inv {ix z na kd ci a md j : Nat} {rs : Nat × Nat × Nat × Nat × Option String} {args rest : List Value} {i : Instr} {tm : List (Option Nat)} {Q : jO → jSt → Prop} (hI : gI y pc = some (i, n)) (hret : ∀ st, g_ret y i st = none) (hnw : j_new i = false) (hx : g_ivx i = some (md, ix)) (hmd2 : md = 1 ∨ md = 2) (hiv : gIv y ix = some (z, na, kd, ci, rs)) (hX : 131 ≤ X.1) (hk : j_ivc y z na kd md = true) (hna : args.length = na) (hcat : args.all (fun v => v.category == 1) = true) (hrest : (rest.map fun v => v.category).sum ≤ 8)
    (hcell : jSk.getD a none = some (.inl (ci, tm))) (hargs : args.all (g_ok 131) = true) (hr : rest.all (g_ok X.1) = true)
    (hz : JZ Eq xs L0 z 0 ((.ref a :: args.reverse).map some ++ List.replicate j none) [] ψ Q)
    (h : ∀ o ψ', Q o ψ' → (∃ v, o = .inl v ∧ LW xs L0 y (pc + 3) L (v.toList ++ rest) ψ' X P) ∨ (∃ E hh, o = .inr E ∧ g_find y pc E (gH y) = some (some hh) ∧ LW xs L0 y hh L [.ref X.1] ψ' (X.1 + 1, va_up X.2 X.1 none) P)) : LW xs L0 y pc L (args ++ .ref a :: rest) ψ X P := by
  obtain ⟨o, ψ', hQ, hr1⟩ := hz
  have ha := jSk_lt hcell
  have hinv : ∀ (lv : gL), jQ X.1 L lv → g_inv y i (args ++ .ref a :: rest) lv (jM ψ X) = some (z, .ref a :: args.reverse, rest) := fun lv hl => J_inv (M := jM ψ X) (lv := lv) (a := a) hx (by rcases hmd2 with rfl | rfl <;> decide) hiv hk hna hcat hrest (fun _ => by
    unfold g_rcv
    rw [jM_rd hX hcell]
    show decide (ci = ci) = true
    exact decide_eq_true rfl) hmd2 hl.1 (j_okm hX hargs) (by show a < X.1; omega) hr
  have hq : jQ 131 ((.ref a :: args.reverse).map some ++ List.replicate j none) (lv_args 0 (.ref a :: args.reverse)) := jQ_args (by simp only [List.all_cons, List.all_reverse]; rw [hcat]; rfl) (by simp only [List.all_cons, List.all_reverse]; rw [hargs]; simp [g_ok]; omega)
  obtain ⟨X1, e1, hr1⟩ := hr1 X hX ⟨X, rfl⟩
  subst e1
  rcases h o ψ' hQ with ⟨v, rfl, w, ψ2, X', nd, hP, h2, h3, hr2⟩ | ⟨E, hh, rfl, hf, w, ψ2, X', nd, hP, h2, h3, hr2⟩
  · exact ⟨w, ψ2, X', nd, hP, h2, h3, fun lv c d hl => g_R_cal (j_thr hI hnw) hI (hret _) (hinv lv hl) (hr1 _ 0 0 hq) (hr2 lv c d hl)⟩
  · have h2' : X.1 + 1 ≤ X'.1 := h2
    have h3' : nd ≤ 18 * (X'.1 - (X.1 + 1)) := h3
    refine ⟨w, ψ2, X', 6 + nd, hP, by omega, by omega, fun lv c d hl => ?_⟩
    have h9 := hr2 lv (c + 1) (d + 6) (jQ_le (Nat.le_succ _) hl)
    have e1 : c + 1 + (X'.1 - (X.1 + 1)) = c + (X'.1 - X.1) := by omega
    have e2 : d + 6 + nd = d + (6 + nd) := by omega
    rw [show ((X.1 + 1, va_up X.2 X.1 none) : gM).1 = X.1 + 1 from rfl, e1, e2] at h9
    rw [← jM_nx _ hX] at h9
    exact g_R_calX (j_thr hI hnw) hI (hret _) (hinv lv hl) (hr1 _ 0 0 hq) hf h9
/-- a static method that knows nothing of the cells behind -/
theorem LW_invS {ix z na kd ci j : Nat} {rs : Nat × Nat × Nat × Nat × Option String} {args rest : List Value} {Q : Int → jSt → Prop} (hI : gI y pc = some (.invokestatic ix, n)) (hiv : gIv y ix = some (z, na, kd, ci, rs)) (hX : 131 ≤ X.1) (hk : j_ivc y z na kd 0 = true) (hna : args.length = na) (hcat : args.all (fun v => v.category == 1) = true) (hrest : (rest.map fun v => v.category).sum ≤ 8)
    (hargs : args.all (g_ok 131) = true) (hr : rest.all (g_ok X.1) = true)
    (hz : JZ Eq xs L0 z 0 (args.reverse.map some ++ List.replicate j none) [] ψ (oI Q))
    (h : ∀ x ψ', Q x ψ' → LW xs L0 y (pc + 3) L (.int (jI x) :: rest) ψ' X P) : LW xs L0 y pc L (args ++ rest) ψ X P := by
  obtain ⟨o, ψ', ⟨x, rfl, hQ⟩, hr1⟩ := hz
  have hinv : ∀ (lv : gL), jQ X.1 L lv → g_inv y (.invokestatic ix) (args ++ rest) lv (jM ψ X) = some (z, args.reverse, rest) := fun lv hl => J_invS (M := jM ψ X) (lv := lv) hiv hk hna hcat hrest hl.1 (j_okm hX hargs) hr
  have hq : jQ 131 (args.reverse.map some ++ List.replicate j none) (lv_args 0 args.reverse) := jQ_args (by rw [List.all_reverse]; exact hcat) (by rw [List.all_reverse]; exact hargs)
  obtain ⟨X1, e1, hr1⟩ := hr1 X hX ⟨X, rfl⟩
  subst e1
  obtain ⟨w, ψ2, X', nd, hP, h2, h3, hr2⟩ := h x ψ' hQ
  exact ⟨w, ψ2, X', nd, hP, h2, h3, fun lv c d hl => g_R_cal (j_thr hI rfl) hI rfl (hinv lv hl) (hr1 _ 0 0 hq) (hr2 lv c d hl)⟩
/-- a static method of the law's own -/
theorem LW_invL {ix z na kd ci j : Nat} {rs : Nat × Nat × Nat × Nat × Option String} {args rest : List Value} {Q : Int → jSt → gM → Prop} (hI : gI y pc = some (.invokestatic ix, n)) (hiv : gIv y ix = some (z, na, kd, ci, rs)) (hX : 131 ≤ X.1) (hk : j_ivc y z na kd 0 = true) (hna : args.length = na) (hcat : args.all (fun v => v.category == 1) = true) (hrest : (rest.map fun v => v.category).sum ≤ 8)
    (hargs : args.all (g_ok 131) = true) (hr : rest.all (g_ok X.1) = true)
    (hz : LW xs L0 z 0 (args.reverse.map some ++ List.replicate j none) [] ψ X Q)
    (h : ∀ x ψ' X', X.1 ≤ X'.1 → Q x ψ' X' → LW xs L0 y (pc + 3) L (.int (jI x) :: rest) ψ' X' P) : LW xs L0 y pc L (args ++ rest) ψ X P := by
  obtain ⟨x, ψ', X1, nd1, hQ, h4, h5, hr1⟩ := hz
  have hinv : ∀ (lv : gL), jQ X.1 L lv → g_inv y (.invokestatic ix) (args ++ rest) lv (jM ψ X) = some (z, args.reverse, rest) := fun lv hl => J_invS (M := jM ψ X) (lv := lv) hiv hk hna hcat hrest hl.1 (j_okm hX hargs) hr
  have hq : jQ X.1 (args.reverse.map some ++ List.replicate j none) (lv_args 0 args.reverse) := jQ_args (by rw [List.all_reverse]; exact hcat) (by rw [List.all_reverse]; exact j_okm hX hargs)
  obtain ⟨w, ψ2, X', nd, hP, h2, h3, hr2⟩ := h x ψ' X1 h4 hQ
  refine ⟨w, ψ2, X', nd1 + nd, hP, by omega, by omega, fun lv c d hl => ?_⟩
  have h8 := hr1 (lv_args 0 args.reverse) 0 0 hq
  have h9 := hr2 lv (c + (X1.1 - X.1)) (d + nd1) (jQ_le h4 hl)
  have e1 : c + (X1.1 - X.1) + (X'.1 - X1.1) = c + (X'.1 - X.1) := by omega
  have e2 : d + nd1 + nd = d + (nd1 + nd) := by omega
  rw [e1, e2] at h9
  rw [Nat.zero_add, Nat.zero_add] at h8
  exact g_R_cal (j_thr hI rfl) hI rfl (hinv lv hl) h8 h9
end LWS
section LWK
variable {xs : Nat → Int32} {L0 y pc n : Nat} {L : List (Option Value)} {ψ : jSt} {X : gM} {P : Int → jSt → gM → Prop} {ix z na kd ci a j : Nat} {rs : Nat × Nat × Nat × Nat × Option String} {rest : List Value} {tm : List (Option Nat)}
theorem LW_v0I {Q : Int → jSt → Prop} (hI : gI y pc = some (.invokevirtual ix, n)) (hiv : gIv y ix = some (z, na, kd, ci, rs)) (hX : 131 ≤ X.1) (hk : j_ivc y z na kd 1 = true) (hna : na = 0) (hcat : ([] : List Value).all (fun v => v.category == 1) = true) (hrest : (rest.map fun v => v.category).sum ≤ 8) (hcell : jSk.getD a none = some (.inl (ci, tm))) (hargs : ([] : List Value).all (g_ok 131) = true) (hr : rest.all (g_ok X.1) = true) (hz : JZ Eq xs L0 z 0 ([some (.ref a)] ++ List.replicate j none) [] ψ (oI Q)) (h : ∀ x ψ', Q x ψ' → LW xs L0 y (pc + 3) L (.int (jI x) :: rest) ψ' X P) : LW xs L0 y pc L (.ref a :: rest) ψ X P :=
  LW_inv (args := []) hI (fun _ => rfl) rfl rfl (by decide) hiv hX hk hna.symm hcat hrest hcell hargs hr (j := j) hz (fun o ψ' hq => by
    obtain ⟨x, rfl, hq⟩ := hq
    exact Or.inl ⟨_, rfl, h x ψ' hq⟩)
theorem LW_v0L {Q : Int64 → jSt → Prop} (hI : gI y pc = some (.invokevirtual ix, n)) (hiv : gIv y ix = some (z, na, kd, ci, rs)) (hX : 131 ≤ X.1) (hk : j_ivc y z na kd 1 = true) (hna : na = 0) (hcat : ([] : List Value).all (fun v => v.category == 1) = true) (hrest : (rest.map fun v => v.category).sum ≤ 8) (hcell : jSk.getD a none = some (.inl (ci, tm))) (hargs : ([] : List Value).all (g_ok 131) = true) (hr : rest.all (g_ok X.1) = true) (hz : JZ Eq xs L0 z 0 ([some (.ref a)] ++ List.replicate j none) [] ψ (oL Q)) (h : ∀ x ψ', Q x ψ' → LW xs L0 y (pc + 3) L (.long x :: rest) ψ' X P) : LW xs L0 y pc L (.ref a :: rest) ψ X P :=
  LW_inv (args := []) hI (fun _ => rfl) rfl rfl (by decide) hiv hX hk hna.symm hcat hrest hcell hargs hr (j := j) hz (fun o ψ' hq => by
    obtain ⟨x, rfl, hq⟩ := hq
    exact Or.inl ⟨_, rfl, h x ψ' hq⟩)
theorem LW_v0D {Q : UInt64 → jSt → Prop} (hI : gI y pc = some (.invokevirtual ix, n)) (hiv : gIv y ix = some (z, na, kd, ci, rs)) (hX : 131 ≤ X.1) (hk : j_ivc y z na kd 1 = true) (hna : na = 0) (hcat : ([] : List Value).all (fun v => v.category == 1) = true) (hrest : (rest.map fun v => v.category).sum ≤ 8) (hcell : jSk.getD a none = some (.inl (ci, tm))) (hargs : ([] : List Value).all (g_ok 131) = true) (hr : rest.all (g_ok X.1) = true) (hz : JZ Eq xs L0 z 0 ([some (.ref a)] ++ List.replicate j none) [] ψ (oD Q)) (h : ∀ x ψ', Q x ψ' → LW xs L0 y (pc + 3) L (.double x :: rest) ψ' X P) : LW xs L0 y pc L (.ref a :: rest) ψ X P :=
  LW_inv (args := []) hI (fun _ => rfl) rfl rfl (by decide) hiv hX hk hna.symm hcat hrest hcell hargs hr (j := j) hz (fun o ψ' hq => by
    obtain ⟨x, rfl, hq⟩ := hq
    exact Or.inl ⟨_, rfl, h x ψ' hq⟩)
theorem LW_v0X {Q : jSt → Prop} {E : String} {hh : Nat} (hI : gI y pc = some (.invokevirtual ix, n)) (hiv : gIv y ix = some (z, na, kd, ci, rs)) (hX : 131 ≤ X.1) (hk : j_ivc y z na kd 1 = true) (hna : na = 0) (hcat : ([] : List Value).all (fun v => v.category == 1) = true) (hrest : (rest.map fun v => v.category).sum ≤ 8) (hcell : jSk.getD a none = some (.inl (ci, tm))) (hargs : ([] : List Value).all (g_ok 131) = true) (hr : rest.all (g_ok X.1) = true) (hf : g_find y pc E (gH y) = some (some hh)) (hz : JZ Eq xs L0 z 0 ([some (.ref a)] ++ List.replicate j none) [] ψ (oX E Q)) (h : ∀ ψ', Q ψ' → LW xs L0 y hh L [.ref X.1] ψ' (X.1 + 1, va_up X.2 X.1 none) P) : LW xs L0 y pc L (.ref a :: rest) ψ X P :=
  LW_inv (args := []) hI (fun _ => rfl) rfl rfl (by decide) hiv hX hk hna.symm hcat hrest hcell hargs hr (j := j) hz (fun o ψ' hq => by
    obtain ⟨rfl, hq⟩ := hq
    exact Or.inr ⟨E, hh, rfl, hf, h ψ' hq⟩)
theorem LW_v1I {Q : Int → jSt → Prop} {v1 : Value} (hI : gI y pc = some (.invokevirtual ix, n)) (hiv : gIv y ix = some (z, na, kd, ci, rs)) (hX : 131 ≤ X.1) (hk : j_ivc y z na kd 1 = true) (hna : na = 1) (hcat : ([v1] : List Value).all (fun v => v.category == 1) = true) (hrest : (rest.map fun v => v.category).sum ≤ 8) (hcell : jSk.getD a none = some (.inl (ci, tm))) (hargs : ([v1] : List Value).all (g_ok 131) = true) (hr : rest.all (g_ok X.1) = true) (hz : JZ Eq xs L0 z 0 ([some (.ref a), some v1] ++ List.replicate j none) [] ψ (oI Q)) (h : ∀ x ψ', Q x ψ' → LW xs L0 y (pc + 3) L (.int (jI x) :: rest) ψ' X P) : LW xs L0 y pc L (v1 :: .ref a :: rest) ψ X P :=
  LW_inv (args := [v1]) hI (fun _ => rfl) rfl rfl (by decide) hiv hX hk hna.symm hcat hrest hcell hargs hr (j := j) hz (fun o ψ' hq => by
    obtain ⟨x, rfl, hq⟩ := hq
    exact Or.inl ⟨_, rfl, h x ψ' hq⟩)
theorem LW_v1X {Q : jSt → Prop} {v1 : Value} {E : String} {hh : Nat} (hI : gI y pc = some (.invokevirtual ix, n)) (hiv : gIv y ix = some (z, na, kd, ci, rs)) (hX : 131 ≤ X.1) (hk : j_ivc y z na kd 1 = true) (hna : na = 1) (hcat : ([v1] : List Value).all (fun v => v.category == 1) = true) (hrest : (rest.map fun v => v.category).sum ≤ 8) (hcell : jSk.getD a none = some (.inl (ci, tm))) (hargs : ([v1] : List Value).all (g_ok 131) = true) (hr : rest.all (g_ok X.1) = true) (hf : g_find y pc E (gH y) = some (some hh)) (hz : JZ Eq xs L0 z 0 ([some (.ref a), some v1] ++ List.replicate j none) [] ψ (oX E Q)) (h : ∀ ψ', Q ψ' → LW xs L0 y hh L [.ref X.1] ψ' (X.1 + 1, va_up X.2 X.1 none) P) : LW xs L0 y pc L (v1 :: .ref a :: rest) ψ X P :=
  LW_inv (args := [v1]) hI (fun _ => rfl) rfl rfl (by decide) hiv hX hk hna.symm hcat hrest hcell hargs hr (j := j) hz (fun o ψ' hq => by
    obtain ⟨rfl, hq⟩ := hq
    exact Or.inr ⟨E, hh, rfl, hf, h ψ' hq⟩)
theorem LW_v2I {Q : Int → jSt → Prop} {v1 v2 : Value} (hI : gI y pc = some (.invokevirtual ix, n)) (hiv : gIv y ix = some (z, na, kd, ci, rs)) (hX : 131 ≤ X.1) (hk : j_ivc y z na kd 1 = true) (hna : na = 2) (hcat : ([v2, v1] : List Value).all (fun v => v.category == 1) = true) (hrest : (rest.map fun v => v.category).sum ≤ 8) (hcell : jSk.getD a none = some (.inl (ci, tm))) (hargs : ([v2, v1] : List Value).all (g_ok 131) = true) (hr : rest.all (g_ok X.1) = true) (hz : JZ Eq xs L0 z 0 ([some (.ref a), some v1, some v2] ++ List.replicate j none) [] ψ (oI Q)) (h : ∀ x ψ', Q x ψ' → LW xs L0 y (pc + 3) L (.int (jI x) :: rest) ψ' X P) : LW xs L0 y pc L (v2 :: v1 :: .ref a :: rest) ψ X P :=
  LW_inv (args := [v2, v1]) hI (fun _ => rfl) rfl rfl (by decide) hiv hX hk hna.symm hcat hrest hcell hargs hr (j := j) hz (fun o ψ' hq => by
    obtain ⟨x, rfl, hq⟩ := hq
    exact Or.inl ⟨_, rfl, h x ψ' hq⟩)
theorem LW_v2X {Q : jSt → Prop} {v1 v2 : Value} {E : String} {hh : Nat} (hI : gI y pc = some (.invokevirtual ix, n)) (hiv : gIv y ix = some (z, na, kd, ci, rs)) (hX : 131 ≤ X.1) (hk : j_ivc y z na kd 1 = true) (hna : na = 2) (hcat : ([v2, v1] : List Value).all (fun v => v.category == 1) = true) (hrest : (rest.map fun v => v.category).sum ≤ 8) (hcell : jSk.getD a none = some (.inl (ci, tm))) (hargs : ([v2, v1] : List Value).all (g_ok 131) = true) (hr : rest.all (g_ok X.1) = true) (hf : g_find y pc E (gH y) = some (some hh)) (hz : JZ Eq xs L0 z 0 ([some (.ref a), some v1, some v2] ++ List.replicate j none) [] ψ (oX E Q)) (h : ∀ ψ', Q ψ' → LW xs L0 y hh L [.ref X.1] ψ' (X.1 + 1, va_up X.2 X.1 none) P) : LW xs L0 y pc L (v2 :: v1 :: .ref a :: rest) ψ X P :=
  LW_inv (args := [v2, v1]) hI (fun _ => rfl) rfl rfl (by decide) hiv hX hk hna.symm hcat hrest hcell hargs hr (j := j) hz (fun o ψ' hq => by
    obtain ⟨rfl, hq⟩ := hq
    exact Or.inr ⟨E, hh, rfl, hf, h ψ' hq⟩)
theorem LW_v3I {Q : Int → jSt → Prop} {v1 v2 v3 : Value} (hI : gI y pc = some (.invokevirtual ix, n)) (hiv : gIv y ix = some (z, na, kd, ci, rs)) (hX : 131 ≤ X.1) (hk : j_ivc y z na kd 1 = true) (hna : na = 3) (hcat : ([v3, v2, v1] : List Value).all (fun v => v.category == 1) = true) (hrest : (rest.map fun v => v.category).sum ≤ 8) (hcell : jSk.getD a none = some (.inl (ci, tm))) (hargs : ([v3, v2, v1] : List Value).all (g_ok 131) = true) (hr : rest.all (g_ok X.1) = true) (hz : JZ Eq xs L0 z 0 ([some (.ref a), some v1, some v2, some v3] ++ List.replicate j none) [] ψ (oI Q)) (h : ∀ x ψ', Q x ψ' → LW xs L0 y (pc + 3) L (.int (jI x) :: rest) ψ' X P) : LW xs L0 y pc L (v3 :: v2 :: v1 :: .ref a :: rest) ψ X P :=
  LW_inv (args := [v3, v2, v1]) hI (fun _ => rfl) rfl rfl (by decide) hiv hX hk hna.symm hcat hrest hcell hargs hr (j := j) hz (fun o ψ' hq => by
    obtain ⟨x, rfl, hq⟩ := hq
    exact Or.inl ⟨_, rfl, h x ψ' hq⟩)
theorem LW_v3X {Q : jSt → Prop} {v1 v2 v3 : Value} {E : String} {hh : Nat} (hI : gI y pc = some (.invokevirtual ix, n)) (hiv : gIv y ix = some (z, na, kd, ci, rs)) (hX : 131 ≤ X.1) (hk : j_ivc y z na kd 1 = true) (hna : na = 3) (hcat : ([v3, v2, v1] : List Value).all (fun v => v.category == 1) = true) (hrest : (rest.map fun v => v.category).sum ≤ 8) (hcell : jSk.getD a none = some (.inl (ci, tm))) (hargs : ([v3, v2, v1] : List Value).all (g_ok 131) = true) (hr : rest.all (g_ok X.1) = true) (hf : g_find y pc E (gH y) = some (some hh)) (hz : JZ Eq xs L0 z 0 ([some (.ref a), some v1, some v2, some v3] ++ List.replicate j none) [] ψ (oX E Q)) (h : ∀ ψ', Q ψ' → LW xs L0 y hh L [.ref X.1] ψ' (X.1 + 1, va_up X.2 X.1 none) P) : LW xs L0 y pc L (v3 :: v2 :: v1 :: .ref a :: rest) ψ X P :=
  LW_inv (args := [v3, v2, v1]) hI (fun _ => rfl) rfl rfl (by decide) hiv hX hk hna.symm hcat hrest hcell hargs hr (j := j) hz (fun o ψ' hq => by
    obtain ⟨rfl, hq⟩ := hq
    exact Or.inr ⟨E, hh, rfl, hf, h ψ' hq⟩)
theorem LW_v4I {Q : Int → jSt → Prop} {v1 v2 v3 v4 : Value} (hI : gI y pc = some (.invokevirtual ix, n)) (hiv : gIv y ix = some (z, na, kd, ci, rs)) (hX : 131 ≤ X.1) (hk : j_ivc y z na kd 1 = true) (hna : na = 4) (hcat : ([v4, v3, v2, v1] : List Value).all (fun v => v.category == 1) = true) (hrest : (rest.map fun v => v.category).sum ≤ 8) (hcell : jSk.getD a none = some (.inl (ci, tm))) (hargs : ([v4, v3, v2, v1] : List Value).all (g_ok 131) = true) (hr : rest.all (g_ok X.1) = true) (hz : JZ Eq xs L0 z 0 ([some (.ref a), some v1, some v2, some v3, some v4] ++ List.replicate j none) [] ψ (oI Q)) (h : ∀ x ψ', Q x ψ' → LW xs L0 y (pc + 3) L (.int (jI x) :: rest) ψ' X P) : LW xs L0 y pc L (v4 :: v3 :: v2 :: v1 :: .ref a :: rest) ψ X P :=
  LW_inv (args := [v4, v3, v2, v1]) hI (fun _ => rfl) rfl rfl (by decide) hiv hX hk hna.symm hcat hrest hcell hargs hr (j := j) hz (fun o ψ' hq => by
    obtain ⟨x, rfl, hq⟩ := hq
    exact Or.inl ⟨_, rfl, h x ψ' hq⟩)
theorem LW_v4X {Q : jSt → Prop} {v1 v2 v3 v4 : Value} {E : String} {hh : Nat} (hI : gI y pc = some (.invokevirtual ix, n)) (hiv : gIv y ix = some (z, na, kd, ci, rs)) (hX : 131 ≤ X.1) (hk : j_ivc y z na kd 1 = true) (hna : na = 4) (hcat : ([v4, v3, v2, v1] : List Value).all (fun v => v.category == 1) = true) (hrest : (rest.map fun v => v.category).sum ≤ 8) (hcell : jSk.getD a none = some (.inl (ci, tm))) (hargs : ([v4, v3, v2, v1] : List Value).all (g_ok 131) = true) (hr : rest.all (g_ok X.1) = true) (hf : g_find y pc E (gH y) = some (some hh)) (hz : JZ Eq xs L0 z 0 ([some (.ref a), some v1, some v2, some v3, some v4] ++ List.replicate j none) [] ψ (oX E Q)) (h : ∀ ψ', Q ψ' → LW xs L0 y hh L [.ref X.1] ψ' (X.1 + 1, va_up X.2 X.1 none) P) : LW xs L0 y pc L (v4 :: v3 :: v2 :: v1 :: .ref a :: rest) ψ X P :=
  LW_inv (args := [v4, v3, v2, v1]) hI (fun _ => rfl) rfl rfl (by decide) hiv hX hk hna.symm hcat hrest hcell hargs hr (j := j) hz (fun o ψ' hq => by
    obtain ⟨rfl, hq⟩ := hq
    exact Or.inr ⟨E, hh, rfl, hf, h ψ' hq⟩)
theorem LW_v5I {Q : Int → jSt → Prop} {v1 v2 v3 v4 v5 : Value} (hI : gI y pc = some (.invokevirtual ix, n)) (hiv : gIv y ix = some (z, na, kd, ci, rs)) (hX : 131 ≤ X.1) (hk : j_ivc y z na kd 1 = true) (hna : na = 5) (hcat : ([v5, v4, v3, v2, v1] : List Value).all (fun v => v.category == 1) = true) (hrest : (rest.map fun v => v.category).sum ≤ 8) (hcell : jSk.getD a none = some (.inl (ci, tm))) (hargs : ([v5, v4, v3, v2, v1] : List Value).all (g_ok 131) = true) (hr : rest.all (g_ok X.1) = true) (hz : JZ Eq xs L0 z 0 ([some (.ref a), some v1, some v2, some v3, some v4, some v5] ++ List.replicate j none) [] ψ (oI Q)) (h : ∀ x ψ', Q x ψ' → LW xs L0 y (pc + 3) L (.int (jI x) :: rest) ψ' X P) : LW xs L0 y pc L (v5 :: v4 :: v3 :: v2 :: v1 :: .ref a :: rest) ψ X P :=
  LW_inv (args := [v5, v4, v3, v2, v1]) hI (fun _ => rfl) rfl rfl (by decide) hiv hX hk hna.symm hcat hrest hcell hargs hr (j := j) hz (fun o ψ' hq => by
    obtain ⟨x, rfl, hq⟩ := hq
    exact Or.inl ⟨_, rfl, h x ψ' hq⟩)
theorem LW_v5X {Q : jSt → Prop} {v1 v2 v3 v4 v5 : Value} {E : String} {hh : Nat} (hI : gI y pc = some (.invokevirtual ix, n)) (hiv : gIv y ix = some (z, na, kd, ci, rs)) (hX : 131 ≤ X.1) (hk : j_ivc y z na kd 1 = true) (hna : na = 5) (hcat : ([v5, v4, v3, v2, v1] : List Value).all (fun v => v.category == 1) = true) (hrest : (rest.map fun v => v.category).sum ≤ 8) (hcell : jSk.getD a none = some (.inl (ci, tm))) (hargs : ([v5, v4, v3, v2, v1] : List Value).all (g_ok 131) = true) (hr : rest.all (g_ok X.1) = true) (hf : g_find y pc E (gH y) = some (some hh)) (hz : JZ Eq xs L0 z 0 ([some (.ref a), some v1, some v2, some v3, some v4, some v5] ++ List.replicate j none) [] ψ (oX E Q)) (h : ∀ ψ', Q ψ' → LW xs L0 y hh L [.ref X.1] ψ' (X.1 + 1, va_up X.2 X.1 none) P) : LW xs L0 y pc L (v5 :: v4 :: v3 :: v2 :: v1 :: .ref a :: rest) ψ X P :=
  LW_inv (args := [v5, v4, v3, v2, v1]) hI (fun _ => rfl) rfl rfl (by decide) hiv hX hk hna.symm hcat hrest hcell hargs hr (j := j) hz (fun o ψ' hq => by
    obtain ⟨rfl, hq⟩ := hq
    exact Or.inr ⟨E, hh, rfl, hf, h ψ' hq⟩)
theorem LW_v0P {Q : Int → Prop} (hI : gI y pc = some (.invokevirtual ix, n)) (hiv : gIv y ix = some (z, na, kd, ci, rs)) (hX : 131 ≤ X.1) (hk : j_ivc y z na kd 1 = true) (hna : na = 0) (hcat : ([] : List Value).all (fun v => v.category == 1) = true) (hrest : (rest.map fun v => v.category).sum ≤ 8) (hcell : jSk.getD a none = some (.inl (ci, tm))) (hargs : ([] : List Value).all (g_ok 131) = true) (hr : rest.all (g_ok X.1) = true) (hz : JZ Eq xs L0 z 0 ([some (.ref a)] ++ List.replicate j none) [] ψ (oI fun x ψ' => Q x ∧ ψ' = ψ)) (h : ∀ x, Q x → LW xs L0 y (pc + 3) L (.int (jI x) :: rest) ψ X P) : LW xs L0 y pc L (.ref a :: rest) ψ X P :=
  LW_v0I hI hiv hX hk hna hcat hrest hcell hargs hr hz (fun x ψ' hq => by
    obtain ⟨h1, h2⟩ := hq
    rw [h2]
    exact h x h1)
theorem LW_v0B {Q : UInt64 → Prop} (hI : gI y pc = some (.invokevirtual ix, n)) (hiv : gIv y ix = some (z, na, kd, ci, rs)) (hX : 131 ≤ X.1) (hk : j_ivc y z na kd 1 = true) (hna : na = 0) (hcat : ([] : List Value).all (fun v => v.category == 1) = true) (hrest : (rest.map fun v => v.category).sum ≤ 8) (hcell : jSk.getD a none = some (.inl (ci, tm))) (hargs : ([] : List Value).all (g_ok 131) = true) (hr : rest.all (g_ok X.1) = true) (hz : JZ Eq xs L0 z 0 ([some (.ref a)] ++ List.replicate j none) [] ψ (oD fun x ψ' => Q x ∧ ψ' = ψ)) (h : ∀ x, Q x → LW xs L0 y (pc + 3) L (.double x :: rest) ψ X P) : LW xs L0 y pc L (.ref a :: rest) ψ X P :=
  LW_v0D hI hiv hX hk hna hcat hrest hcell hargs hr hz (fun x ψ' hq => by
    obtain ⟨h1, h2⟩ := hq
    rw [h2]
    exact h x h1)
theorem LW_v0Y {E : String} {hh : Nat} (hI : gI y pc = some (.invokevirtual ix, n)) (hiv : gIv y ix = some (z, na, kd, ci, rs)) (hX : 131 ≤ X.1) (hk : j_ivc y z na kd 1 = true) (hna : na = 0) (hcat : ([] : List Value).all (fun v => v.category == 1) = true) (hrest : (rest.map fun v => v.category).sum ≤ 8) (hcell : jSk.getD a none = some (.inl (ci, tm))) (hargs : ([] : List Value).all (g_ok 131) = true) (hr : rest.all (g_ok X.1) = true) (hf : g_find y pc E (gH y) = some (some hh)) (hz : JZ Eq xs L0 z 0 ([some (.ref a)] ++ List.replicate j none) [] ψ (oX E fun ψ' => ψ' = ψ)) (h : LW xs L0 y hh L [.ref X.1] ψ (X.1 + 1, va_up X.2 X.1 none) P) : LW xs L0 y pc L (.ref a :: rest) ψ X P :=
  LW_v0X hI hiv hX hk hna hcat hrest hcell hargs hr hf hz (fun ψ' hq => by
    rw [hq]
    exact h)
theorem LW_v1P {Q : Int → Prop} {v1 : Value} (hI : gI y pc = some (.invokevirtual ix, n)) (hiv : gIv y ix = some (z, na, kd, ci, rs)) (hX : 131 ≤ X.1) (hk : j_ivc y z na kd 1 = true) (hna : na = 1) (hcat : ([v1] : List Value).all (fun v => v.category == 1) = true) (hrest : (rest.map fun v => v.category).sum ≤ 8) (hcell : jSk.getD a none = some (.inl (ci, tm))) (hargs : ([v1] : List Value).all (g_ok 131) = true) (hr : rest.all (g_ok X.1) = true) (hz : JZ Eq xs L0 z 0 ([some (.ref a), some v1] ++ List.replicate j none) [] ψ (oI fun x ψ' => Q x ∧ ψ' = ψ)) (h : ∀ x, Q x → LW xs L0 y (pc + 3) L (.int (jI x) :: rest) ψ X P) : LW xs L0 y pc L (v1 :: .ref a :: rest) ψ X P :=
  LW_v1I hI hiv hX hk hna hcat hrest hcell hargs hr hz (fun x ψ' hq => by
    obtain ⟨h1, h2⟩ := hq
    rw [h2]
    exact h x h1)
theorem LW_v1Y {E : String} {hh : Nat} {v1 : Value} (hI : gI y pc = some (.invokevirtual ix, n)) (hiv : gIv y ix = some (z, na, kd, ci, rs)) (hX : 131 ≤ X.1) (hk : j_ivc y z na kd 1 = true) (hna : na = 1) (hcat : ([v1] : List Value).all (fun v => v.category == 1) = true) (hrest : (rest.map fun v => v.category).sum ≤ 8) (hcell : jSk.getD a none = some (.inl (ci, tm))) (hargs : ([v1] : List Value).all (g_ok 131) = true) (hr : rest.all (g_ok X.1) = true) (hf : g_find y pc E (gH y) = some (some hh)) (hz : JZ Eq xs L0 z 0 ([some (.ref a), some v1] ++ List.replicate j none) [] ψ (oX E fun ψ' => ψ' = ψ)) (h : LW xs L0 y hh L [.ref X.1] ψ (X.1 + 1, va_up X.2 X.1 none) P) : LW xs L0 y pc L (v1 :: .ref a :: rest) ψ X P :=
  LW_v1X hI hiv hX hk hna hcat hrest hcell hargs hr hf hz (fun ψ' hq => by
    rw [hq]
    exact h)
theorem LW_v2P {Q : Int → Prop} {v1 v2 : Value} (hI : gI y pc = some (.invokevirtual ix, n)) (hiv : gIv y ix = some (z, na, kd, ci, rs)) (hX : 131 ≤ X.1) (hk : j_ivc y z na kd 1 = true) (hna : na = 2) (hcat : ([v2, v1] : List Value).all (fun v => v.category == 1) = true) (hrest : (rest.map fun v => v.category).sum ≤ 8) (hcell : jSk.getD a none = some (.inl (ci, tm))) (hargs : ([v2, v1] : List Value).all (g_ok 131) = true) (hr : rest.all (g_ok X.1) = true) (hz : JZ Eq xs L0 z 0 ([some (.ref a), some v1, some v2] ++ List.replicate j none) [] ψ (oI fun x ψ' => Q x ∧ ψ' = ψ)) (h : ∀ x, Q x → LW xs L0 y (pc + 3) L (.int (jI x) :: rest) ψ X P) : LW xs L0 y pc L (v2 :: v1 :: .ref a :: rest) ψ X P :=
  LW_v2I hI hiv hX hk hna hcat hrest hcell hargs hr hz (fun x ψ' hq => by
    obtain ⟨h1, h2⟩ := hq
    rw [h2]
    exact h x h1)
theorem LW_v2Y {E : String} {hh : Nat} {v1 v2 : Value} (hI : gI y pc = some (.invokevirtual ix, n)) (hiv : gIv y ix = some (z, na, kd, ci, rs)) (hX : 131 ≤ X.1) (hk : j_ivc y z na kd 1 = true) (hna : na = 2) (hcat : ([v2, v1] : List Value).all (fun v => v.category == 1) = true) (hrest : (rest.map fun v => v.category).sum ≤ 8) (hcell : jSk.getD a none = some (.inl (ci, tm))) (hargs : ([v2, v1] : List Value).all (g_ok 131) = true) (hr : rest.all (g_ok X.1) = true) (hf : g_find y pc E (gH y) = some (some hh)) (hz : JZ Eq xs L0 z 0 ([some (.ref a), some v1, some v2] ++ List.replicate j none) [] ψ (oX E fun ψ' => ψ' = ψ)) (h : LW xs L0 y hh L [.ref X.1] ψ (X.1 + 1, va_up X.2 X.1 none) P) : LW xs L0 y pc L (v2 :: v1 :: .ref a :: rest) ψ X P :=
  LW_v2X hI hiv hX hk hna hcat hrest hcell hargs hr hf hz (fun ψ' hq => by
    rw [hq]
    exact h)
theorem LW_v3P {Q : Int → Prop} {v1 v2 v3 : Value} (hI : gI y pc = some (.invokevirtual ix, n)) (hiv : gIv y ix = some (z, na, kd, ci, rs)) (hX : 131 ≤ X.1) (hk : j_ivc y z na kd 1 = true) (hna : na = 3) (hcat : ([v3, v2, v1] : List Value).all (fun v => v.category == 1) = true) (hrest : (rest.map fun v => v.category).sum ≤ 8) (hcell : jSk.getD a none = some (.inl (ci, tm))) (hargs : ([v3, v2, v1] : List Value).all (g_ok 131) = true) (hr : rest.all (g_ok X.1) = true) (hz : JZ Eq xs L0 z 0 ([some (.ref a), some v1, some v2, some v3] ++ List.replicate j none) [] ψ (oI fun x ψ' => Q x ∧ ψ' = ψ)) (h : ∀ x, Q x → LW xs L0 y (pc + 3) L (.int (jI x) :: rest) ψ X P) : LW xs L0 y pc L (v3 :: v2 :: v1 :: .ref a :: rest) ψ X P :=
  LW_v3I hI hiv hX hk hna hcat hrest hcell hargs hr hz (fun x ψ' hq => by
    obtain ⟨h1, h2⟩ := hq
    rw [h2]
    exact h x h1)
theorem LW_v3Y {E : String} {hh : Nat} {v1 v2 v3 : Value} (hI : gI y pc = some (.invokevirtual ix, n)) (hiv : gIv y ix = some (z, na, kd, ci, rs)) (hX : 131 ≤ X.1) (hk : j_ivc y z na kd 1 = true) (hna : na = 3) (hcat : ([v3, v2, v1] : List Value).all (fun v => v.category == 1) = true) (hrest : (rest.map fun v => v.category).sum ≤ 8) (hcell : jSk.getD a none = some (.inl (ci, tm))) (hargs : ([v3, v2, v1] : List Value).all (g_ok 131) = true) (hr : rest.all (g_ok X.1) = true) (hf : g_find y pc E (gH y) = some (some hh)) (hz : JZ Eq xs L0 z 0 ([some (.ref a), some v1, some v2, some v3] ++ List.replicate j none) [] ψ (oX E fun ψ' => ψ' = ψ)) (h : LW xs L0 y hh L [.ref X.1] ψ (X.1 + 1, va_up X.2 X.1 none) P) : LW xs L0 y pc L (v3 :: v2 :: v1 :: .ref a :: rest) ψ X P :=
  LW_v3X hI hiv hX hk hna hcat hrest hcell hargs hr hf hz (fun ψ' hq => by
    rw [hq]
    exact h)
theorem LW_t1I {Q : Int → jSt → Prop} {v1 : Value} (hI : gI y pc = some (.invokestatic ix, n)) (hiv : gIv y ix = some (z, na, kd, ci, rs)) (hX : 131 ≤ X.1) (hk : j_ivc y z na kd 0 = true) (hna : na = 1) (hcat : ([v1] : List Value).all (fun v => v.category == 1) = true) (hrest : (rest.map fun v => v.category).sum ≤ 8) (hargs : ([v1] : List Value).all (g_ok 131) = true) (hr : rest.all (g_ok X.1) = true) (hz : JZ Eq xs L0 z 0 ([some v1] ++ List.replicate j none) [] ψ (oI Q)) (h : ∀ x ψ', Q x ψ' → LW xs L0 y (pc + 3) L (.int (jI x) :: rest) ψ' X P) : LW xs L0 y pc L (v1 :: rest) ψ X P :=
  LW_invS (args := [v1]) hI hiv hX hk hna.symm hcat hrest hargs hr (j := j) hz h
theorem LW_t1P {Q : Int → Prop} {v1 : Value} (hI : gI y pc = some (.invokestatic ix, n)) (hiv : gIv y ix = some (z, na, kd, ci, rs)) (hX : 131 ≤ X.1) (hk : j_ivc y z na kd 0 = true) (hna : na = 1) (hcat : ([v1] : List Value).all (fun v => v.category == 1) = true) (hrest : (rest.map fun v => v.category).sum ≤ 8) (hargs : ([v1] : List Value).all (g_ok 131) = true) (hr : rest.all (g_ok X.1) = true) (hz : JZ Eq xs L0 z 0 ([some v1] ++ List.replicate j none) [] ψ (oI fun x ψ' => Q x ∧ ψ' = ψ)) (h : ∀ x, Q x → LW xs L0 y (pc + 3) L (.int (jI x) :: rest) ψ X P) : LW xs L0 y pc L (v1 :: rest) ψ X P :=
  LW_t1I hI hiv hX hk hna hcat hrest hargs hr hz (fun x ψ' hq => by
    obtain ⟨h1, h2⟩ := hq
    rw [h2]
    exact h x h1)
theorem LW_l1I {Q : Int → jSt → gM → Prop} {v1 : Value} (hI : gI y pc = some (.invokestatic ix, n)) (hiv : gIv y ix = some (z, na, kd, ci, rs)) (hX : 131 ≤ X.1) (hk : j_ivc y z na kd 0 = true) (hna : na = 1) (hcat : ([v1] : List Value).all (fun v => v.category == 1) = true) (hrest : (rest.map fun v => v.category).sum ≤ 8) (hargs : ([v1] : List Value).all (g_ok 131) = true) (hr : rest.all (g_ok X.1) = true) (hz : LW xs L0 z 0 ([some v1] ++ List.replicate j none) [] ψ X Q) (h : ∀ x ψ' X', X.1 ≤ X'.1 → Q x ψ' X' → LW xs L0 y (pc + 3) L (.int (jI x) :: rest) ψ' X' P) : LW xs L0 y pc L (v1 :: rest) ψ X P :=
  LW_invL (args := [v1]) hI hiv hX hk hna.symm hcat hrest hargs hr (j := j) hz h
theorem LW_t2I {Q : Int → jSt → Prop} {v1 v2 : Value} (hI : gI y pc = some (.invokestatic ix, n)) (hiv : gIv y ix = some (z, na, kd, ci, rs)) (hX : 131 ≤ X.1) (hk : j_ivc y z na kd 0 = true) (hna : na = 2) (hcat : ([v2, v1] : List Value).all (fun v => v.category == 1) = true) (hrest : (rest.map fun v => v.category).sum ≤ 8) (hargs : ([v2, v1] : List Value).all (g_ok 131) = true) (hr : rest.all (g_ok X.1) = true) (hz : JZ Eq xs L0 z 0 ([some v1, some v2] ++ List.replicate j none) [] ψ (oI Q)) (h : ∀ x ψ', Q x ψ' → LW xs L0 y (pc + 3) L (.int (jI x) :: rest) ψ' X P) : LW xs L0 y pc L (v2 :: v1 :: rest) ψ X P :=
  LW_invS (args := [v2, v1]) hI hiv hX hk hna.symm hcat hrest hargs hr (j := j) hz h
theorem LW_t2P {Q : Int → Prop} {v1 v2 : Value} (hI : gI y pc = some (.invokestatic ix, n)) (hiv : gIv y ix = some (z, na, kd, ci, rs)) (hX : 131 ≤ X.1) (hk : j_ivc y z na kd 0 = true) (hna : na = 2) (hcat : ([v2, v1] : List Value).all (fun v => v.category == 1) = true) (hrest : (rest.map fun v => v.category).sum ≤ 8) (hargs : ([v2, v1] : List Value).all (g_ok 131) = true) (hr : rest.all (g_ok X.1) = true) (hz : JZ Eq xs L0 z 0 ([some v1, some v2] ++ List.replicate j none) [] ψ (oI fun x ψ' => Q x ∧ ψ' = ψ)) (h : ∀ x, Q x → LW xs L0 y (pc + 3) L (.int (jI x) :: rest) ψ X P) : LW xs L0 y pc L (v2 :: v1 :: rest) ψ X P :=
  LW_t2I hI hiv hX hk hna hcat hrest hargs hr hz (fun x ψ' hq => by
    obtain ⟨h1, h2⟩ := hq
    rw [h2]
    exact h x h1)
theorem LW_l2I {Q : Int → jSt → gM → Prop} {v1 v2 : Value} (hI : gI y pc = some (.invokestatic ix, n)) (hiv : gIv y ix = some (z, na, kd, ci, rs)) (hX : 131 ≤ X.1) (hk : j_ivc y z na kd 0 = true) (hna : na = 2) (hcat : ([v2, v1] : List Value).all (fun v => v.category == 1) = true) (hrest : (rest.map fun v => v.category).sum ≤ 8) (hargs : ([v2, v1] : List Value).all (g_ok 131) = true) (hr : rest.all (g_ok X.1) = true) (hz : LW xs L0 z 0 ([some v1, some v2] ++ List.replicate j none) [] ψ X Q) (h : ∀ x ψ' X', X.1 ≤ X'.1 → Q x ψ' X' → LW xs L0 y (pc + 3) L (.int (jI x) :: rest) ψ' X' P) : LW xs L0 y pc L (v2 :: v1 :: rest) ψ X P :=
  LW_invL (args := [v2, v1]) hI hiv hX hk hna.symm hcat hrest hargs hr (j := j) hz h
theorem LW_t3I {Q : Int → jSt → Prop} {v1 v2 v3 : Value} (hI : gI y pc = some (.invokestatic ix, n)) (hiv : gIv y ix = some (z, na, kd, ci, rs)) (hX : 131 ≤ X.1) (hk : j_ivc y z na kd 0 = true) (hna : na = 3) (hcat : ([v3, v2, v1] : List Value).all (fun v => v.category == 1) = true) (hrest : (rest.map fun v => v.category).sum ≤ 8) (hargs : ([v3, v2, v1] : List Value).all (g_ok 131) = true) (hr : rest.all (g_ok X.1) = true) (hz : JZ Eq xs L0 z 0 ([some v1, some v2, some v3] ++ List.replicate j none) [] ψ (oI Q)) (h : ∀ x ψ', Q x ψ' → LW xs L0 y (pc + 3) L (.int (jI x) :: rest) ψ' X P) : LW xs L0 y pc L (v3 :: v2 :: v1 :: rest) ψ X P :=
  LW_invS (args := [v3, v2, v1]) hI hiv hX hk hna.symm hcat hrest hargs hr (j := j) hz h
theorem LW_t3P {Q : Int → Prop} {v1 v2 v3 : Value} (hI : gI y pc = some (.invokestatic ix, n)) (hiv : gIv y ix = some (z, na, kd, ci, rs)) (hX : 131 ≤ X.1) (hk : j_ivc y z na kd 0 = true) (hna : na = 3) (hcat : ([v3, v2, v1] : List Value).all (fun v => v.category == 1) = true) (hrest : (rest.map fun v => v.category).sum ≤ 8) (hargs : ([v3, v2, v1] : List Value).all (g_ok 131) = true) (hr : rest.all (g_ok X.1) = true) (hz : JZ Eq xs L0 z 0 ([some v1, some v2, some v3] ++ List.replicate j none) [] ψ (oI fun x ψ' => Q x ∧ ψ' = ψ)) (h : ∀ x, Q x → LW xs L0 y (pc + 3) L (.int (jI x) :: rest) ψ X P) : LW xs L0 y pc L (v3 :: v2 :: v1 :: rest) ψ X P :=
  LW_t3I hI hiv hX hk hna hcat hrest hargs hr hz (fun x ψ' hq => by
    obtain ⟨h1, h2⟩ := hq
    rw [h2]
    exact h x h1)
theorem LW_l3I {Q : Int → jSt → gM → Prop} {v1 v2 v3 : Value} (hI : gI y pc = some (.invokestatic ix, n)) (hiv : gIv y ix = some (z, na, kd, ci, rs)) (hX : 131 ≤ X.1) (hk : j_ivc y z na kd 0 = true) (hna : na = 3) (hcat : ([v3, v2, v1] : List Value).all (fun v => v.category == 1) = true) (hrest : (rest.map fun v => v.category).sum ≤ 8) (hargs : ([v3, v2, v1] : List Value).all (g_ok 131) = true) (hr : rest.all (g_ok X.1) = true) (hz : LW xs L0 z 0 ([some v1, some v2, some v3] ++ List.replicate j none) [] ψ X Q) (h : ∀ x ψ' X', X.1 ≤ X'.1 → Q x ψ' X' → LW xs L0 y (pc + 3) L (.int (jI x) :: rest) ψ' X' P) : LW xs L0 y pc L (v3 :: v2 :: v1 :: rest) ψ X P :=
  LW_invL (args := [v3, v2, v1]) hI hiv hX hk hna.symm hcat hrest hargs hr (j := j) hz h
theorem LW_t4I {Q : Int → jSt → Prop} {v1 v2 v3 v4 : Value} (hI : gI y pc = some (.invokestatic ix, n)) (hiv : gIv y ix = some (z, na, kd, ci, rs)) (hX : 131 ≤ X.1) (hk : j_ivc y z na kd 0 = true) (hna : na = 4) (hcat : ([v4, v3, v2, v1] : List Value).all (fun v => v.category == 1) = true) (hrest : (rest.map fun v => v.category).sum ≤ 8) (hargs : ([v4, v3, v2, v1] : List Value).all (g_ok 131) = true) (hr : rest.all (g_ok X.1) = true) (hz : JZ Eq xs L0 z 0 ([some v1, some v2, some v3, some v4] ++ List.replicate j none) [] ψ (oI Q)) (h : ∀ x ψ', Q x ψ' → LW xs L0 y (pc + 3) L (.int (jI x) :: rest) ψ' X P) : LW xs L0 y pc L (v4 :: v3 :: v2 :: v1 :: rest) ψ X P :=
  LW_invS (args := [v4, v3, v2, v1]) hI hiv hX hk hna.symm hcat hrest hargs hr (j := j) hz h
theorem LW_t4P {Q : Int → Prop} {v1 v2 v3 v4 : Value} (hI : gI y pc = some (.invokestatic ix, n)) (hiv : gIv y ix = some (z, na, kd, ci, rs)) (hX : 131 ≤ X.1) (hk : j_ivc y z na kd 0 = true) (hna : na = 4) (hcat : ([v4, v3, v2, v1] : List Value).all (fun v => v.category == 1) = true) (hrest : (rest.map fun v => v.category).sum ≤ 8) (hargs : ([v4, v3, v2, v1] : List Value).all (g_ok 131) = true) (hr : rest.all (g_ok X.1) = true) (hz : JZ Eq xs L0 z 0 ([some v1, some v2, some v3, some v4] ++ List.replicate j none) [] ψ (oI fun x ψ' => Q x ∧ ψ' = ψ)) (h : ∀ x, Q x → LW xs L0 y (pc + 3) L (.int (jI x) :: rest) ψ X P) : LW xs L0 y pc L (v4 :: v3 :: v2 :: v1 :: rest) ψ X P :=
  LW_t4I hI hiv hX hk hna hcat hrest hargs hr hz (fun x ψ' hq => by
    obtain ⟨h1, h2⟩ := hq
    rw [h2]
    exact h x h1)
theorem LW_l4I {Q : Int → jSt → gM → Prop} {v1 v2 v3 v4 : Value} (hI : gI y pc = some (.invokestatic ix, n)) (hiv : gIv y ix = some (z, na, kd, ci, rs)) (hX : 131 ≤ X.1) (hk : j_ivc y z na kd 0 = true) (hna : na = 4) (hcat : ([v4, v3, v2, v1] : List Value).all (fun v => v.category == 1) = true) (hrest : (rest.map fun v => v.category).sum ≤ 8) (hargs : ([v4, v3, v2, v1] : List Value).all (g_ok 131) = true) (hr : rest.all (g_ok X.1) = true) (hz : LW xs L0 z 0 ([some v1, some v2, some v3, some v4] ++ List.replicate j none) [] ψ X Q) (h : ∀ x ψ' X', X.1 ≤ X'.1 → Q x ψ' X' → LW xs L0 y (pc + 3) L (.int (jI x) :: rest) ψ' X' P) : LW xs L0 y pc L (v4 :: v3 :: v2 :: v1 :: rest) ψ X P :=
  LW_invL (args := [v4, v3, v2, v1]) hI hiv hX hk hna.symm hcat hrest hargs hr (j := j) hz h
theorem LW_t5I {Q : Int → jSt → Prop} {v1 v2 v3 v4 v5 : Value} (hI : gI y pc = some (.invokestatic ix, n)) (hiv : gIv y ix = some (z, na, kd, ci, rs)) (hX : 131 ≤ X.1) (hk : j_ivc y z na kd 0 = true) (hna : na = 5) (hcat : ([v5, v4, v3, v2, v1] : List Value).all (fun v => v.category == 1) = true) (hrest : (rest.map fun v => v.category).sum ≤ 8) (hargs : ([v5, v4, v3, v2, v1] : List Value).all (g_ok 131) = true) (hr : rest.all (g_ok X.1) = true) (hz : JZ Eq xs L0 z 0 ([some v1, some v2, some v3, some v4, some v5] ++ List.replicate j none) [] ψ (oI Q)) (h : ∀ x ψ', Q x ψ' → LW xs L0 y (pc + 3) L (.int (jI x) :: rest) ψ' X P) : LW xs L0 y pc L (v5 :: v4 :: v3 :: v2 :: v1 :: rest) ψ X P :=
  LW_invS (args := [v5, v4, v3, v2, v1]) hI hiv hX hk hna.symm hcat hrest hargs hr (j := j) hz h
theorem LW_t5P {Q : Int → Prop} {v1 v2 v3 v4 v5 : Value} (hI : gI y pc = some (.invokestatic ix, n)) (hiv : gIv y ix = some (z, na, kd, ci, rs)) (hX : 131 ≤ X.1) (hk : j_ivc y z na kd 0 = true) (hna : na = 5) (hcat : ([v5, v4, v3, v2, v1] : List Value).all (fun v => v.category == 1) = true) (hrest : (rest.map fun v => v.category).sum ≤ 8) (hargs : ([v5, v4, v3, v2, v1] : List Value).all (g_ok 131) = true) (hr : rest.all (g_ok X.1) = true) (hz : JZ Eq xs L0 z 0 ([some v1, some v2, some v3, some v4, some v5] ++ List.replicate j none) [] ψ (oI fun x ψ' => Q x ∧ ψ' = ψ)) (h : ∀ x, Q x → LW xs L0 y (pc + 3) L (.int (jI x) :: rest) ψ X P) : LW xs L0 y pc L (v5 :: v4 :: v3 :: v2 :: v1 :: rest) ψ X P :=
  LW_t5I hI hiv hX hk hna hcat hrest hargs hr hz (fun x ψ' hq => by
    obtain ⟨h1, h2⟩ := hq
    rw [h2]
    exact h x h1)
theorem LW_l5I {Q : Int → jSt → gM → Prop} {v1 v2 v3 v4 v5 : Value} (hI : gI y pc = some (.invokestatic ix, n)) (hiv : gIv y ix = some (z, na, kd, ci, rs)) (hX : 131 ≤ X.1) (hk : j_ivc y z na kd 0 = true) (hna : na = 5) (hcat : ([v5, v4, v3, v2, v1] : List Value).all (fun v => v.category == 1) = true) (hrest : (rest.map fun v => v.category).sum ≤ 8) (hargs : ([v5, v4, v3, v2, v1] : List Value).all (g_ok 131) = true) (hr : rest.all (g_ok X.1) = true) (hz : LW xs L0 z 0 ([some v1, some v2, some v3, some v4, some v5] ++ List.replicate j none) [] ψ X Q) (h : ∀ x ψ' X', X.1 ≤ X'.1 → Q x ψ' X' → LW xs L0 y (pc + 3) L (.int (jI x) :: rest) ψ' X' P) : LW xs L0 y pc L (v5 :: v4 :: v3 :: v2 :: v1 :: rest) ψ X P :=
  LW_invL (args := [v5, v4, v3, v2, v1]) hI hiv hX hk hna.symm hcat hrest hargs hr (j := j) hz h
theorem LW_t6I {Q : Int → jSt → Prop} {v1 v2 v3 v4 v5 v6 : Value} (hI : gI y pc = some (.invokestatic ix, n)) (hiv : gIv y ix = some (z, na, kd, ci, rs)) (hX : 131 ≤ X.1) (hk : j_ivc y z na kd 0 = true) (hna : na = 6) (hcat : ([v6, v5, v4, v3, v2, v1] : List Value).all (fun v => v.category == 1) = true) (hrest : (rest.map fun v => v.category).sum ≤ 8) (hargs : ([v6, v5, v4, v3, v2, v1] : List Value).all (g_ok 131) = true) (hr : rest.all (g_ok X.1) = true) (hz : JZ Eq xs L0 z 0 ([some v1, some v2, some v3, some v4, some v5, some v6] ++ List.replicate j none) [] ψ (oI Q)) (h : ∀ x ψ', Q x ψ' → LW xs L0 y (pc + 3) L (.int (jI x) :: rest) ψ' X P) : LW xs L0 y pc L (v6 :: v5 :: v4 :: v3 :: v2 :: v1 :: rest) ψ X P :=
  LW_invS (args := [v6, v5, v4, v3, v2, v1]) hI hiv hX hk hna.symm hcat hrest hargs hr (j := j) hz h
theorem LW_t6P {Q : Int → Prop} {v1 v2 v3 v4 v5 v6 : Value} (hI : gI y pc = some (.invokestatic ix, n)) (hiv : gIv y ix = some (z, na, kd, ci, rs)) (hX : 131 ≤ X.1) (hk : j_ivc y z na kd 0 = true) (hna : na = 6) (hcat : ([v6, v5, v4, v3, v2, v1] : List Value).all (fun v => v.category == 1) = true) (hrest : (rest.map fun v => v.category).sum ≤ 8) (hargs : ([v6, v5, v4, v3, v2, v1] : List Value).all (g_ok 131) = true) (hr : rest.all (g_ok X.1) = true) (hz : JZ Eq xs L0 z 0 ([some v1, some v2, some v3, some v4, some v5, some v6] ++ List.replicate j none) [] ψ (oI fun x ψ' => Q x ∧ ψ' = ψ)) (h : ∀ x, Q x → LW xs L0 y (pc + 3) L (.int (jI x) :: rest) ψ X P) : LW xs L0 y pc L (v6 :: v5 :: v4 :: v3 :: v2 :: v1 :: rest) ψ X P :=
  LW_t6I hI hiv hX hk hna hcat hrest hargs hr hz (fun x ψ' hq => by
    obtain ⟨h1, h2⟩ := hq
    rw [h2]
    exact h x h1)
theorem LW_l6I {Q : Int → jSt → gM → Prop} {v1 v2 v3 v4 v5 v6 : Value} (hI : gI y pc = some (.invokestatic ix, n)) (hiv : gIv y ix = some (z, na, kd, ci, rs)) (hX : 131 ≤ X.1) (hk : j_ivc y z na kd 0 = true) (hna : na = 6) (hcat : ([v6, v5, v4, v3, v2, v1] : List Value).all (fun v => v.category == 1) = true) (hrest : (rest.map fun v => v.category).sum ≤ 8) (hargs : ([v6, v5, v4, v3, v2, v1] : List Value).all (g_ok 131) = true) (hr : rest.all (g_ok X.1) = true) (hz : LW xs L0 z 0 ([some v1, some v2, some v3, some v4, some v5, some v6] ++ List.replicate j none) [] ψ X Q) (h : ∀ x ψ' X', X.1 ≤ X'.1 → Q x ψ' X' → LW xs L0 y (pc + 3) L (.int (jI x) :: rest) ψ' X' P) : LW xs L0 y pc L (v6 :: v5 :: v4 :: v3 :: v2 :: v1 :: rest) ψ X P :=
  LW_invL (args := [v6, v5, v4, v3, v2, v1]) hI hiv hX hk hna.symm hcat hrest hargs hr (j := j) hz h
end LWK
