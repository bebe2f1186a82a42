/-! where pieces could hang; the digest -/
section L40
variable {xs : Nat → Int32} {L0 y pc n : Nat} {L : List (Option Value)} {st : List Value} {ψ : jSt} {X : gM} {P : Int → jSt → gM → Prop}
theorem LW_aBar {r : Nat} {x : Int} (b : Nat) (hI : gI y pc = some (.aaload, n)) (hX : 131 ≤ X.1) (hr : jR2 r) (hx : x = (b : Int)) (hb : b < 8) (h : LW xs L0 y (pc + 1) L (.ref (r + 2 + b) :: st) ψ X P) : LW xs L0 y pc L (.int (jI x) :: .ref (r + 1) :: st) ψ X P := by
  subst hx
  exact LW_aald hI hX (jR_bars hr) (by decide) (by omega) (by omega) (by decide) (by
    have e : r + 1 + 1 + 1 * ((b : Nat) : Int).toNat = r + 2 + b := by omega
    rw [e]; exact h)
theorem LW_aPiece {x : Int} (b : Nat) (hI : gI y pc = some (.aaload, n)) (hX : 131 ≤ X.1) (hx : x = (b : Int)) (hb : b < 10) (h : LW xs L0 y (pc + 1) L (.ref (121 + b) :: st) ψ X P) : LW xs L0 y pc L (.int (jI x) :: .ref 120 :: st) ψ X P := by
  subst hx
  exact LW_aald hI hX jPieces (by decide) (by omega) (by omega) (by decide) (by
    have e : 120 + 1 + 1 * ((b : Nat) : Int).toNat = 121 + b := by omega
    rw [e]; exact h)
theorem LW_iretw {w : Int32} (hI : gI y pc = some (.ireturn, n)) (hR : gR y = some .int) (hP : P w.toInt ψ X) : LW xs L0 y pc L [.int w] ψ X P := by
  have h := LW_iret (xs := xs) (L0 := L0) (L := L) (v := w.toInt) hI hR hP
  have e : jI w.toInt = w := Int32.ofInt_toInt w
  rw [e] at h
  exact h
/-- a call on an object, whose contract tells the cells behind -/
theorem LW_inw {ix z na kd ci a j : Nat} {rs : Nat × Nat × Nat × Nat × Option String} {args rest : List Value} {tm : List (Option Nat)} {Q : Int → jSt → gM → Prop} (hI : gI y pc = some (.invokevirtual ix, n)) (hiv : gIv y ix = some (z, na, kd, ci, rs)) (hX : 131 ≤ X.1) (hk : j_ivc y z na kd 1 = true) (hna : args.length = na) (hcat : args.all (fun v => v.category == 1) = true) (hrest : (rest.map fun v => v.category).sum ≤ 8)
    (hcell : jSk.getD a none = some (.inl (ci, tm))) (hargs : args.all (g_ok 131) = true) (hr : rest.all (g_ok X.1) = true)
    (hz : LW xs L0 z 0 ((.ref a :: args.reverse).map some ++ List.replicate j none) [] ψ X Q)
    (h : ∀ x ψ' X', X.1 ≤ X'.1 → Q x ψ' X' → LW xs L0 y (pc + 3) L (.int (jI x) :: rest) ψ' X' P) : LW xs L0 y pc L (args ++ .ref a :: rest) ψ X P := by
  obtain ⟨x, ψ', X1, nd1, hQ, h4, h5, hr1⟩ := hz
  have ha := jSk_lt hcell
  have hinv : ∀ (lv : gL), jQ X.1 L lv → g_inv y (.invokevirtual ix) (args ++ .ref a :: rest) lv (jM ψ X) = some (z, .ref a :: args.reverse, rest) := fun lv hl => J_inv (M := jM ψ X) (lv := lv) (a := a) rfl (by decide) hiv hk hna hcat hrest (fun _ => by
    unfold g_rcv
    rw [jM_rd hX hcell]
    show decide (ci = ci) = true
    exact decide_eq_true rfl) (by decide) hl.1 (j_okm hX hargs) (by show a < X.1; omega) hr
  have hq : jQ X.1 ((.ref a :: args.reverse).map some ++ List.replicate j none) (lv_args 0 (.ref a :: args.reverse)) := jQ_args (by simp only [List.all_cons, List.all_reverse]; rw [hcat]; rfl) (by simp only [List.all_cons, List.all_reverse]; rw [j_okm hX hargs, Bool.and_true]; exact decide_eq_true (show a < X.1 by omega))
  obtain ⟨w, ψ2, X', nd, hP, h2, h3, hr2⟩ := h x ψ' X1 h4 hQ
  refine ⟨w, ψ2, X', nd1 + nd, hP, by omega, by omega, fun lv c d hl => ?_⟩
  have h8 := hr1 (lv_args 0 (.ref a :: args.reverse)) 0 0 hq
  have h9 := hr2 lv (c + (X1.1 - X.1)) (d + nd1) (jQ_le h4 hl)
  have e1 : c + (X1.1 - X.1) + (X'.1 - X1.1) = c + (X'.1 - X.1) := by omega
  have e2 : d + nd1 + nd = d + (nd1 + nd) := by omega
  rw [e1, e2] at h9
  rw [Nat.zero_add, Nat.zero_add] at h8
  exact g_R_cal (j_thr hI rfl) hI rfl (hinv lv hl) h8 h9
theorem LW_w2I {ix z na kd ci a j : Nat} {rs : Nat × Nat × Nat × Nat × Option String} {rest : List Value} {tm : List (Option Nat)} {Q : Int → jSt → gM → Prop} {v1 v2 : Value} (hI : gI y pc = some (.invokevirtual ix, n)) (hiv : gIv y ix = some (z, na, kd, ci, rs)) (hX : 131 ≤ X.1) (hk : j_ivc y z na kd 1 = true) (hna : na = 2) (hcat : ([v2, v1] : List Value).all (fun v => v.category == 1) = true) (hrest : (rest.map fun v => v.category).sum ≤ 8) (hcell : jSk.getD a none = some (.inl (ci, tm))) (hargs : ([v2, v1] : List Value).all (g_ok 131) = true) (hr : rest.all (g_ok X.1) = true) (hz : LW xs L0 z 0 ([some (.ref a), some v1, some v2] ++ List.replicate j none) [] ψ X Q) (h : ∀ x ψ' X', X.1 ≤ X'.1 → Q x ψ' X' → LW xs L0 y (pc + 3) L (.int (jI x) :: rest) ψ' X' P) : LW xs L0 y pc L (v2 :: v1 :: .ref a :: rest) ψ X P :=
  LW_inw (args := [v2, v1]) hI hiv hX hk hna.symm hcat hrest hcell hargs hr (j := j) hz h
theorem LW_w3I {ix z na kd ci a j : Nat} {rs : Nat × Nat × Nat × Nat × Option String} {rest : List Value} {tm : List (Option Nat)} {Q : Int → jSt → gM → Prop} {v1 v2 v3 : Value} (hI : gI y pc = some (.invokevirtual ix, n)) (hiv : gIv y ix = some (z, na, kd, ci, rs)) (hX : 131 ≤ X.1) (hk : j_ivc y z na kd 1 = true) (hna : na = 3) (hcat : ([v3, v2, v1] : List Value).all (fun v => v.category == 1) = true) (hrest : (rest.map fun v => v.category).sum ≤ 8) (hcell : jSk.getD a none = some (.inl (ci, tm))) (hargs : ([v3, v2, v1] : List Value).all (g_ok 131) = true) (hr : rest.all (g_ok X.1) = true) (hz : LW xs L0 z 0 ([some (.ref a), some v1, some v2, some v3] ++ List.replicate j none) [] ψ X Q) (h : ∀ x ψ' X', X.1 ≤ X'.1 → Q x ψ' X' → LW xs L0 y (pc + 3) L (.int (jI x) :: rest) ψ' X' P) : LW xs L0 y pc L (v3 :: v2 :: v1 :: .ref a :: rest) ψ X P :=
  LW_inw (args := [v3, v2, v1]) hI hiv hX hk hna.symm hcat hrest hcell hargs hr (j := j) hz h
end L40
/-- the row of places, cell 131 -/
def ZP (X X' : gM) : Prop := ∃ f f' : Nat → Int32, 132 ≤ X.1 ∧ X.2 131 = some (.inr (0, 10, .inl f)) ∧ X' = (X.1, va_up X.2 131 (some (.inr (0, 10, .inl f'))))
theorem ZP_rf {X Y : gM} (h : ZP X Y) : ZP X X := by
  obtain ⟨f, f', h0, h1, -⟩ := h
  refine ⟨f, f, h0, h1, ?_⟩
  have e : va_up X.2 131 (some (.inr (0, 10, .inl f))) = X.2 := by
    funext a
    unfold va_up
    split
    · next q => rw [q, h1]
    · rfl
  rw [e]
theorem JZ_fits {xs : Nat → Int32} {L0 y pc n : Nat} {L : List (Option Value)} {ψ : jSt} {P : jO → jSt → Prop} {ix z na kd ci a j : Nat} {rs : Nat × Nat × Nat × Nat × Option String} {rest : List Value} {tm : List (Option Nat)} {Q : Int → jSt → Prop} {v1 : Value} (hI : gI y pc = some (.invokevirtual ix, n)) (hiv : gIv y ix = some (z, na, kd, ci, rs)) (hk : j_ivc y z na kd 1 = true) (hna : na = 1) (hcat : ([v1] : List Value).all (fun v => v.category == 1) = true) (hrest : (rest.map fun v => v.category).sum ≤ 8) (hcell : jSk.getD a none = some (.inl (ci, tm))) (hargs : ([v1] : List Value).all (g_ok 131) = true) (hr : rest.all (g_ok 131) = true)
    (hz : JZ ZP xs L0 z 0 ([some (.ref a), some v1] ++ List.replicate j none) [] ψ (oI Q)) (h : ∀ x ψ', Q x ψ' → JZ Eq xs L0 y (pc + 3) L (.int (jI x) :: rest) ψ' P) : JZ ZP xs L0 y pc L (v1 :: .ref a :: rest) ψ P := by
  obtain ⟨o, ψ', ⟨x, rfl, hQ⟩, hr1⟩ := hz
  have ha := jSk_lt hcell
  have hinv : ∀ (X : gM) (lv : gL), 131 ≤ X.1 → jQ 131 L lv → g_inv y (.invokevirtual ix) ([v1] ++ .ref a :: rest) lv (jM ψ X) = some (z, .ref a :: [v1].reverse, rest) := fun X lv hX hl => J_inv (M := jM ψ X) (lv := lv) (a := a) rfl (by decide) hiv hk hna.symm hcat hrest (fun _ => by
    unfold g_rcv
    rw [jM_rd hX hcell]
    show decide (ci = ci) = true
    exact decide_eq_true rfl) (by decide) (j_ok_mono hX hl.1) (j_okm hX hargs) (by show a < X.1; omega) (j_okm hX hr)
  have hq : jQ 131 ((.ref a :: [v1].reverse).map some ++ List.replicate j none) (lv_args 0 (.ref a :: [v1].reverse)) := jQ_args (show ((Value.ref a).category == 1 && ([v1] : List Value).all (fun v => v.category == 1)) = true by rw [hcat]; rfl) (show (g_ok 131 (Value.ref a) && ([v1] : List Value).all (g_ok 131)) = true by rw [hargs, Bool.and_true]; exact decide_eq_true ha)
  obtain ⟨w, ψ2, hP, hr2⟩ := h x ψ' hQ
  refine ⟨w, ψ2, hP, fun X hX hY => ?_⟩
  obtain ⟨X1, e1, hr1⟩ := hr1 X hX hY
  have hX1 : 131 ≤ X1.1 := by
    obtain ⟨f, f', h0, h1, h2⟩ := e1
    rw [h2]
    exact hX
  obtain ⟨X2, e2, hr2⟩ := hr2 X1 hX1 ⟨X1, rfl⟩
  subst e2
  exact ⟨X1, e1, fun lv c d hl => g_R_cal (j_thr hI rfl) hI rfl (hinv X lv hX hl) (hr1 _ 0 0 hq) (hr2 lv c d hl)⟩
theorem JZ_of_LW {xs : Nat → Int32} {L0 y pc : Nat} {L : List (Option Value)} {st : List Value} {ψ ψ2 : jSt} {v : Int} {Q : Int → jSt → Prop} (hP : Q v ψ2) (h : ∀ X : gM, 131 ≤ X.1 → (∃ Y, ZP X Y) → LW xs L0 y pc L st ψ X (fun x φ X' => x = v ∧ φ = ψ2 ∧ ZP X X')) : JZ ZP xs L0 y pc L st ψ (oI Q) := by
  refine ⟨.inl (some (.int (jI v))), ψ2, ⟨v, rfl, hP⟩, fun X hX hY => ?_⟩
  obtain ⟨x, φ, X', nd, ⟨rfl, rfl, hZ⟩, h1, h2, hr⟩ := h X hX hY
  have e : X'.1 = X.1 := by
    obtain ⟨f, f', h0, h1, h2⟩ := hZ
    rw [h2]
  refine ⟨X', hZ, fun lv c d hl => ?_⟩
  have h9 := hr lv c d (jQ_le hX hl)
  rw [e, Nat.sub_self] at h2 h9
  have e2 : nd = 0 := by omega
  subst e2
  exact h9
/-! places, purely -/
def bhd (ψ : jSt) (g : Nat → Int) (p : Nat) (b : Int) : Nat → Bool
  | 0 => true
  | k + 1 => bhd ψ g p b k && decide (ψ (121 + k) 62 + ψ (121 + p) 62 < b - g k)
theorem bhd_no {ψ : jSt} {g : Nat → Int} {p : Nat} {b : Int} {i : Nat} (h : ¬ ψ (121 + i) 62 + ψ (121 + p) 62 < b - g i) : ∀ k, i < k → bhd ψ g p b k = false
  | 0, hk => absurd hk (Nat.not_lt_zero i)
  | k + 1, hk => by
    show (bhd ψ g p b k && decide (ψ (121 + k) 62 + ψ (121 + p) 62 < b - g k)) = false
    rcases Nat.lt_or_eq_of_le (Nat.lt_succ_iff.mp hk) with hk | rfl
    · rw [bhd_no h k hk, Bool.false_and]
    · rw [decide_eq_false h, Bool.and_false]
def spl (ψ : jSt) (g : Nat → Int) (p : Nat) : Nat → Nat → Int
  | 0, _ => -1
  | k + 1, b => if ψ (121 + p) 60 ≤ ψ (2 + 2 + b) 2 ∧ bhd ψ g p b p = true then (b : Int) else spl ψ g p k (b + 1)
theorem spl_r (ψ : jSt) (g : Nat → Int) (p : Nat) : ∀ k b : Nat, -1 ≤ spl ψ g p k b ∧ spl ψ g p k b ≤ ((k + b : Nat) : Int)
  | 0, b => ⟨Int.le_refl _, by show (-1 : Int) ≤ _; omega⟩
  | k + 1, b => by
    have ih := spl_r ψ g p k (b + 1)
    show -1 ≤ (if ψ (121 + p) 60 ≤ ψ (2 + 2 + b) 2 ∧ bhd ψ g p b p = true then (b : Int) else spl ψ g p k (b + 1)) ∧ (if ψ (121 + p) 60 ≤ ψ (2 + 2 + b) 2 ∧ bhd ψ g p b p = true then (b : Int) else spl ψ g p k (b + 1)) ≤ _
    split <;> omega
def plc (ψ : jSt) (n : Nat) : Nat → Nat → Int
  | 0, _ => 0
  | p + 1, i => if i = p then spl ψ (plc ψ n p) p n 0 else plc ψ n p i
theorem plc_r (ψ : jSt) {n : Nat} (hn : n ≤ 8) : ∀ p i : Nat, -1 ≤ plc ψ n p i ∧ plc ψ n p i ≤ 8
  | 0, _ => ⟨by show (-1 : Int) ≤ 0; decide, by show (0 : Int) ≤ 8; decide⟩
  | p + 1, i => by
    have ih := plc_r ψ hn p i
    have h1 := spl_r ψ (plc ψ n p) p n 0
    show -1 ≤ (if i = p then spl ψ (plc ψ n p) p n 0 else plc ψ n p i) ∧ (if i = p then spl ψ (plc ψ n p) p n 0 else plc ψ n p i) ≤ 8
    split <;> omega
def fit (ψ : jSt) (n : Nat) : Nat → Nat → Int32 → Int32
  | 0, _, s => s
  | k + 1, p, s => if spl ψ (plc ψ n p) p n 0 = -1 then jI 0 else fit ψ n k (p + 1) (s ||| (jI 1 <<< (jI (spl ψ (plc ψ n p) p n 0) &&& 31)))
def XR (X X' : gM) (f : Nat → Int32) : Prop := X'.1 = X.1 ∧ (∀ a, ¬ a = 131 → X'.2 a = X.2 a) ∧ X'.2 131 = some (.inr (0, 10, .inl f))
theorem XR_ZP {X X' : gM} {f0 f : Nat → Int32} (hX : 132 ≤ X.1) (h0 : X.2 131 = some (.inr (0, 10, .inl f0))) (h : XR X X' f) : ZP X X' := by
  obtain ⟨h1, h2, h3⟩ := h
  refine ⟨f0, f, hX, h0, ?_⟩
  obtain ⟨X1, X2⟩ := X'
  have e1 : X1 = X.1 := h1
  have e2 : X2 = va_up X.2 131 (some (.inr (0, 10, .inl f))) := by
    funext a
    unfold va_up
    split
    · next q => rw [q]; exact h3
    · next q => exact h2 a q
  rw [e1, e2]
theorem ush8 : ((jI 255).toUInt32 >>> ((jI 8).toUInt32 &&& Int32.toUInt32 31)).toInt32 = jI 0 := by decide +kernel
theorem shl8 : jI 1 <<< (jI 8 &&& 31) = jI 256 := by decide +kernel
section P40
variable {xs : Nat → Int32} {L0 : Nat}
theorem m_70 {ψ : jSt} {X : gM} {f : Nat → Int32} {g : Nat → Int} {p : Nat} (hX : 132 ≤ X.1) (hpl : X.2 131 = some (.inr (0, 10, .inl f))) (hp : p < 8) (hf : ∀ i, i < p → f i = jI (g i)) (hg : ∀ i, -1 ≤ g i ∧ g i ≤ 8) (h103 : ψ 1 103 = 8) (hG : jG ψ) {b : Nat} (hb : b < 8) : LW xs L0 70 0 ([some (.ref 1), some (.int (jI (p : Int))), some (.int (jI (b : Int))), some (.int (jI 255))] ++ List.replicate 2 none) [] ψ X (fun x φ X' => ((x = 1 ∧ bhd ψ g p b p = true) ∨ (x = 0 ∧ bhd ψ g p b p = false)) ∧ φ = ψ ∧ X' = X) := by
  have hT := jTow1
  have hrB := jR_rig (r := 2) (by decide)
  refine LW_iconst i_70_0 ?_
  refine LW_istore i_70_1 (by rw [l_70]; decide) (by rfl) ?_
  refine LW_fg (L' := [some (.ref 1), some (.int (jI (p : Int))), some (.int (jI (b : Int))), some (.int (jI 255)), some (.int (jI (((0 : Nat) : Int)))), none]) ?_ (by repeat (first | exact trivial | refine ⟨rfl, ?_⟩))
  refine LW_for (σ := Unit) (N := p) (I := fun i _ ψ1 X1 => ψ1 = ψ ∧ X1 = X ∧ bhd ψ g p b i = true) (Lf := fun i _ => [some (.ref 1), some (.int (jI (p : Int))), some (.int (jI (b : Int))), some (.int (jI 255)), some (.int (jI ((i : Int)))), none]) ?_ ?_ p 0 () ψ X (by omega) ?_
  · intro i u ψ1 X1 hi hI hK
    obtain ⟨e1, e2, hI⟩ := hI
    rw [e1, e2]
    have hpi := jR_piece (show i < 10 by omega)
    have hpp := jR_piece (show p < 10 by omega)
    have hgi := hg i
    refine LW_iload i_70_3 (by rfl) ?_
    refine LW_iload_n i_70_5 (by rfl) ?_
    refine LW_icge (tg := 62) i_70_6 (by decide) (by omega) (by omega) (fun h6 => ?_) (fun h6 => ?_)
    · exfalso; omega
    refine LW_aload_n i_70_9 (by rfl) ?_
    refine LW_gR i_70_10 f_70_21 (by omega) jTow1 (by rfl) ?_
    refine LW_iload i_70_13 (by rfl) ?_
    refine LW_aPiece (i) i_70_15 (by omega) (by omega) (by omega) ?_
    refine LW_gB (key := 62) i_70_16 f_70_79 (by omega) (by assumption) (by rfl) rfl hG (fun u16 v16 => ?_)
    refine LW_aload_n i_70_19 (by rfl) ?_
    refine LW_gR i_70_20 f_70_21 (by omega) jTow1 (by rfl) ?_
    refine LW_iload_n i_70_23 (by rfl) ?_
    refine LW_aPiece (p) i_70_24 (by omega) (by omega) (by omega) ?_
    refine LW_gB (key := 62) i_70_25 f_70_79 (by omega) (by assumption) (by rfl) rfl hG (fun u25 v25 => ?_)
    refine LW_iadd i_70_28 ?_
    refine LW_istore i_70_29 (by rw [l_70]; decide) (by rfl) ?_
    refine LW_iload_n i_70_31 (by rfl) ?_
    refine LW_iload i_70_32 (by rfl) ?_
    refine LW_t2P (j := 0) i_70_34 v_70_294 (by omega) (by decide +kernel) rfl rfl (Nat.le_of_ble_eq_true rfl) rfl rfl (m_69 i (by omega)) (fun x34 hx34 => ?_)
    refine LW_ifeq (tg := 56) i_70_37 (by decide) (by omega) (fun h37 => ?_) (fun h37 => ?_)
    · refine LW_iinc i_70_56 (by rfl) (by rw [l_70]; decide) (by rfl) ?_
      refine LW_goto (tg := 3) i_70_59 (by decide) ?_
      refine LW_fg (hK () _ _ ⟨rfl, rfl, ?_⟩) (by repeat (first | exact trivial | refine ⟨rfl, ?_⟩))
      show (bhd ψ g p b i && decide (ψ (121 + i) 62 + ψ (121 + p) 62 < b - g i)) = true
      rw [hI, decide_eq_true (by omega)]
      rfl
    refine LW_iload_n i_70_40 (by rfl) ?_
    refine LW_aload_n i_70_41 (by rfl) ?_
    refine LW_gR i_70_42 f_70_26 (by omega) jTow1 (by rfl) ?_
    refine LW_iload i_70_45 (by rfl) ?_
    refine LW_iald i_70_47 (by omega) (by omega) hpl (by omega) (by omega) (by omega) ?_
    rw [Int.toNat_natCast, hf i hi]
    refine LW_isub i_70_48 ?_
    refine LW_iload i_70_49 (by rfl) ?_
    refine LW_icgt (tg := 56) i_70_51 (by decide) (by omega) (by omega) (fun h51 => ?_) (fun h51 => ?_)
    · refine LW_iinc i_70_56 (by rfl) (by rw [l_70]; decide) (by rfl) ?_
      refine LW_goto (tg := 3) i_70_59 (by decide) ?_
      refine LW_fg (hK () _ _ ⟨rfl, rfl, ?_⟩) (by repeat (first | exact trivial | refine ⟨rfl, ?_⟩))
      show (bhd ψ g p b i && decide (ψ (121 + i) 62 + ψ (121 + p) 62 < b - g i)) = true
      rw [hI, decide_eq_true (by omega)]
      rfl
    refine LW_iconst i_70_54 ?_
    refine LW_zret i_70_55 r_70 (by omega) ?_
    exact ⟨Or.inr ⟨rfl, bhd_no (by omega) p hi⟩, rfl, rfl⟩
  · intro u ψ1 X1 hI
    obtain ⟨e1, e2, hI⟩ := hI
    rw [e1, e2]
    refine LW_iload i_70_3 (by rfl) ?_
    refine LW_iload_n i_70_5 (by rfl) ?_
    refine LW_icge (tg := 62) i_70_6 (by decide) (by omega) (by omega) (fun h6 => ?_) (fun h6 => ?_)
    · refine LW_iconst i_70_62 ?_
      refine LW_zret i_70_63 r_70 (by omega) ?_
      exact ⟨Or.inl ⟨rfl, hI⟩, rfl, rfl⟩
    exfalso; omega
  · exact ⟨rfl, rfl, rfl⟩
theorem m_71 {ψ : jSt} {X : gM} {f : Nat → Int32} {g : Nat → Int} {p : Nat} (hX : 132 ≤ X.1) (hpl : X.2 131 = some (.inr (0, 10, .inl f))) (hp : p < 8) (hf : ∀ i, i < p → f i = jI (g i)) (hg : ∀ i, -1 ≤ g i ∧ g i ≤ 8) (h103 : ψ 1 103 = 8) (hG : jG ψ) {n : Nat} (hn : ψ 2 81 = (n : Int)) (hn8 : n ≤ 8) : LW xs L0 71 0 ([some (.ref 1), some (.int (jI (p : Int))), some (.int (jI 255))] ++ List.replicate 1 none) [] ψ X (fun x φ X' => x = spl ψ g p n 0 ∧ φ = ψ ∧ X' = X) := by
  have hT := jTow1
  have hrB := jR_rig (r := 2) (by decide)
  refine LW_iconst i_71_0 ?_
  refine LW_istore_n i_71_1 (by rw [l_71]; decide) (by rfl) ?_
  refine LW_fg (L' := [some (.ref 1), some (.int (jI (p : Int))), some (.int (jI 255)), some (.int (jI (((0 : Nat) : Int))))]) ?_ (by repeat (first | exact trivial | refine ⟨rfl, ?_⟩))
  refine LW_for (σ := Unit) (N := n) (I := fun i _ ψ1 X1 => ψ1 = ψ ∧ X1 = X ∧ spl ψ g p n 0 = spl ψ g p (n - i) i) (Lf := fun i _ => [some (.ref 1), some (.int (jI (p : Int))), some (.int (jI 255)), some (.int (jI ((i : Int))))]) ?_ ?_ n 0 () ψ X (by omega) ?_
  · intro i u ψ1 X1 hi hI hK
    obtain ⟨e1, e2, hI⟩ := hI
    rw [e1, e2]
    have hpp := jR_piece (show p < 10 by omega)
    have hbar := jR_bar (r := 2) (by decide) (show i < 8 by omega)
    have hni : n - i = (n - (i + 1)) + 1 := by omega
    have hst : spl ψ g p (n - i) i = if ψ (121 + p) 60 ≤ ψ (2 + 2 + i) 2 ∧ bhd ψ g p i p = true then (i : Int) else spl ψ g p (n - (i + 1)) (i + 1) := by rw [hni]; rfl
    refine LW_iload_n i_71_2 (by rfl) ?_
    refine LW_aload_n i_71_3 (by rfl) ?_
    refine LW_gR i_71_4 f_71_10 (by omega) jTow1 (by rfl) ?_
    refine LW_gB (key := 81) i_71_7 f_71_37 (by omega) (by assumption) (by rfl) rfl hG (fun u7 v7 => ?_)
    refine LW_icge (tg := 55) i_71_10 (by decide) (by omega) (by omega) (fun h10 => ?_) (fun h10 => ?_)
    · exfalso; omega
    refine LW_aload_n i_71_13 (by rfl) ?_
    refine LW_gR i_71_14 f_71_21 (by omega) jTow1 (by rfl) ?_
    refine LW_iload_n i_71_17 (by rfl) ?_
    refine LW_aPiece (p) i_71_18 (by omega) (by omega) (by omega) ?_
    refine LW_gB (key := 60) i_71_19 f_71_73 (by omega) (by assumption) (by rfl) rfl hG (fun u19 v19 => ?_)
    refine LW_aload_n i_71_22 (by rfl) ?_
    refine LW_gR i_71_23 f_71_10 (by omega) jTow1 (by rfl) ?_
    refine LW_gR i_71_26 f_71_46 (by omega) (by assumption) (by rfl) ?_
    refine LW_iload_n i_71_29 (by rfl) ?_
    refine LW_aBar (i) i_71_30 (by omega) (by decide) (by omega) (by omega) ?_
    refine LW_gB (key := 2) i_71_31 f_71_56 (by omega) (by assumption) (by rfl) rfl hG (fun u31 v31 => ?_)
    refine LW_icgt (tg := 49) i_71_34 (by decide) (by omega) (by omega) (fun h34 => ?_) (fun h34 => ?_)
    · refine LW_iinc i_71_49 (by rfl) (by rw [l_71]; decide) (by rfl) ?_
      refine LW_goto (tg := 2) i_71_52 (by decide) ?_
      first
        | exact LW_fg (hK () _ _ ⟨rfl, rfl, by rw [hI, hst, if_neg (fun q => absurd q.1 (by omega))]⟩) (by repeat (first | exact trivial | refine ⟨rfl, ?_⟩))
        | exact LW_fg (hK () _ _ ⟨rfl, rfl, by rw [hI, hst, if_neg (fun q => by rcases hq41 with q2 | q2; omega; rw [q2.2] at q; exact absurd q.2 (by decide))]⟩) (by repeat (first | exact trivial | refine ⟨rfl, ?_⟩))
    refine LW_aload_n i_71_37 (by rfl) ?_
    refine LW_iload_n i_71_38 (by rfl) ?_
    refine LW_iload_n i_71_39 (by rfl) ?_
    refine LW_iload_n i_71_40 (by rfl) ?_
    refine LW_w3I (j := 2) i_71_41 v_71_346 (by omega) (by decide +kernel) rfl rfl (Nat.le_of_ble_eq_true rfl) (by assumption) rfl rfl (m_70 hX hpl hp hf hg h103 hG (b := i) (by omega)) (fun x41 φ41 X41 hle41 hQ41 => ?_)
    obtain ⟨hq41, e41, e41x⟩ := hQ41
    rw [e41, e41x]
    refine LW_ifeq (tg := 49) i_71_44 (by decide) (by omega) (fun h44 => ?_) (fun h44 => ?_)
    · refine LW_iinc i_71_49 (by rfl) (by rw [l_71]; decide) (by rfl) ?_
      refine LW_goto (tg := 2) i_71_52 (by decide) ?_
      first
        | exact LW_fg (hK () _ _ ⟨rfl, rfl, by rw [hI, hst, if_neg (fun q => absurd q.1 (by omega))]⟩) (by repeat (first | exact trivial | refine ⟨rfl, ?_⟩))
        | exact LW_fg (hK () _ _ ⟨rfl, rfl, by rw [hI, hst, if_neg (fun q => by rcases hq41 with q2 | q2; omega; rw [q2.2] at q; exact absurd q.2 (by decide))]⟩) (by repeat (first | exact trivial | refine ⟨rfl, ?_⟩))
    refine LW_iload_n i_71_47 (by rfl) ?_
    refine LW_iret i_71_48 r_71 ?_
    exact ⟨by rw [hI, hst, if_pos ⟨by omega, by rcases hq41 with q | q; exact q.2; omega⟩], rfl, rfl⟩
  · intro u ψ1 X1 hI
    obtain ⟨e1, e2, hI⟩ := hI
    rw [e1, e2]
    refine LW_iload_n i_71_2 (by rfl) ?_
    refine LW_aload_n i_71_3 (by rfl) ?_
    refine LW_gR i_71_4 f_71_10 (by omega) jTow1 (by rfl) ?_
    refine LW_gB (key := 81) i_71_7 f_71_37 (by omega) (by assumption) (by rfl) rfl hG (fun u7 v7 => ?_)
    refine LW_icge (tg := 55) i_71_10 (by decide) (by omega) (by omega) (fun h10 => ?_) (fun h10 => ?_)
    · refine LW_iconst i_71_55 ?_
      refine LW_iret i_71_56 r_71 ?_
      exact ⟨by rw [hI, Nat.sub_self]; rfl, rfl, rfl⟩
    exfalso; omega
  · exact ⟨rfl, rfl, rfl⟩
theorem m_72 {ψ : jSt} {X : gM} {f0 : Nat → Int32} {n : Nat} (hX : 132 ≤ X.1) (hpl : X.2 131 = some (.inr (0, 10, .inl f0))) (hn : ψ 2 81 = (n : Int)) (hn8 : n ≤ 8) (h103 : ψ 1 103 = 8) (hG : jG ψ) : LW xs L0 72 0 ([some (.ref 1), some (.int (jI 255))] ++ List.replicate 3 none) [] ψ X (fun x φ X' => x = (fit ψ n 8 0 (jI 0)).toInt ∧ φ = ψ ∧ ∃ f, XR X X' f) := by
  have hT := jTow1
  have hrB := jR_rig (r := 2) (by decide)
  refine LW_iload_n i_72_0 (by rfl) ?_
  refine LW_aload_n i_72_1 (by rfl) ?_
  refine LW_gB (key := 103) i_72_2 f_72_68 (by omega) (by assumption) (by rfl) rfl hG (fun u2 v2 => ?_)
  refine LW_iushr i_72_5 ?_
  rw [h103, ush8]
  refine LW_ifeq (tg := 20) i_72_6 (by decide) (by omega) (fun h6 => ?_) (fun h6 => ?_)
  · refine LW_iconst i_72_20 ?_
    refine LW_istore_n i_72_21 (by rw [l_72]; decide) (by rfl) ?_
    refine LW_iconst i_72_22 ?_
    refine LW_istore_n i_72_23 (by rw [l_72]; decide) (by rfl) ?_
    refine LW_fg (L' := [some (.ref 1), some (.int (jI 255)), some (.int (jI 0)), some (.int (jI (((0 : Nat) : Int)))), none]) ?_ (by repeat (first | exact trivial | refine ⟨rfl, ?_⟩))
    refine LW_for (σ := Int32) (N := 8) (I := fun i s ψ1 X1 => ψ1 = ψ ∧ fit ψ n 8 0 (jI 0) = fit ψ n (8 - i) i s ∧ ∃ f, XR X X1 f ∧ ∀ j, j < i → f j = jI (plc ψ n i j)) (Lf := fun i s => [some (.ref 1), some (.int (jI 255)), some (.int s), some (.int (jI ((i : Int)))), none]) ?_ ?_ 8 0 (jI 0) ψ X (by omega) ?_
    · intro i s ψ1 X1 hi hI hK
      obtain ⟨e1, hI, f, hXR, hf⟩ := hI
      rw [e1]
      have hX1 : 132 ≤ X1.1 := by rw [hXR.1]; exact hX
      have hni : 8 - i = (8 - (i + 1)) + 1 := by omega
      have hst : fit ψ n (8 - i) i s = if spl ψ (plc ψ n i) i n 0 = -1 then jI 0 else fit ψ n (8 - (i + 1)) (i + 1) (s ||| (jI 1 <<< (jI (spl ψ (plc ψ n i) i n 0) &&& 31))) := by rw [hni]; rfl
      refine LW_iload_n i_72_24 (by rfl) ?_
      refine LW_aload_n i_72_25 (by rfl) ?_
      refine LW_gB (key := 103) i_72_26 f_72_68 (by omega) (by assumption) (by rfl) rfl hG (fun u26 v26 => ?_)
      refine LW_icge (tg := 77) i_72_29 (by decide) (by omega) (by omega) (fun h29 => ?_) (fun h29 => ?_)
      · exfalso; omega
      refine LW_iload_n i_72_32 (by rfl) ?_
      refine LW_iload_n i_72_33 (by rfl) ?_
      refine LW_t2P (j := 0) i_72_34 v_72_294 (by omega) (by decide +kernel) rfl rfl (Nat.le_of_ble_eq_true rfl) rfl rfl (m_69 i (by omega)) (fun x34 hx34 => ?_)
      refine LW_ifeq (tg := 71) i_72_37 (by decide) (by omega) (fun h37 => ?_) (fun h37 => ?_)
      · refine LW_iinc i_72_71 (by rfl) (by rw [l_72]; decide) (by rfl) ?_
        refine LW_goto (tg := 24) i_72_74 (by decide) ?_
        first
          | (exfalso; omega)
          | (refine LW_fg (hK _ _ _ ⟨rfl, (by rw [hI, hst, if_neg (by rw [← hx43]; exact h51), ← hx43]), upd f ((i : Nat) : Int).toNat (jI x43), ⟨hXR.1, fun a ha => ?_, ?_⟩, fun j hj => ?_⟩) (by repeat (first | exact trivial | refine ⟨rfl, ?_⟩))
             · show va_up X1.2 131 _ a = _
               unfold va_up
               rw [if_neg ha]
               exact hXR.2.1 a ha
             · show (if (131 : Nat) = 131 then some (.inr (0, 10, .inl (upd f ((i : Nat) : Int).toNat (jI x43)))) else X1.2 131) = _
               rw [if_pos rfl]
             · show upd f ((i : Nat) : Int).toNat (jI x43) j = jI (if j = i then spl ψ (plc ψ n i) i n 0 else plc ψ n i j)
               unfold upd
               rw [Int.toNat_natCast]
               by_cases q : j = i
               · rw [if_pos q, if_pos q, hx43]
               · rw [if_neg q, if_neg q]
                 exact hf j (by omega))
      refine LW_aload_n i_72_40 (by rfl) ?_
      refine LW_iload_n i_72_41 (by rfl) ?_
      refine LW_iload_n i_72_42 (by rfl) ?_
      refine LW_w2I (j := 1) i_72_43 v_72_298 (by omega) (by decide +kernel) rfl rfl (Nat.le_of_ble_eq_true rfl) (by assumption) rfl rfl (m_71 (g := plc ψ n i) (by rw [hXR.1]; exact hX) hXR.2.2 (by omega) hf (plc_r ψ hn8 i) h103 hG hn hn8) (fun x43 φ43 X43 hle43 hQ43 => ?_)
      obtain ⟨hx43, e43, e43x⟩ := hQ43
      rw [e43, e43x]
      have hr43 := spl_r ψ (plc ψ n i) i n 0
      refine LW_istore i_72_46 (by rw [l_72]; decide) (by rfl) ?_
      refine LW_iload i_72_48 (by rfl) ?_
      refine LW_iconst i_72_50 ?_
      refine LW_icne (tg := 56) i_72_51 (by decide) (by omega) (by omega) (fun h51 => ?_) (fun h51 => ?_)
      · refine LW_aload_n i_72_56 (by rfl) ?_
        refine LW_gR i_72_57 f_72_26 (by omega) jTow1 (by rfl) ?_
        refine LW_iload_n i_72_60 (by rfl) ?_
        refine LW_iload i_72_61 (by rfl) ?_
        refine LW_iast i_72_63 (by omega) (by rw [hXR.1]; omega) hXR.2.2 (by omega) (by omega) (by omega) ?_
        refine LW_iload_n i_72_64 (by rfl) ?_
        refine LW_iconst i_72_65 ?_
        refine LW_iload i_72_66 (by rfl) ?_
        refine LW_ishl i_72_68 ?_
        refine LW_ior i_72_69 ?_
        refine LW_istore_n i_72_70 (by rw [l_72]; decide) (by rfl) ?_
        refine LW_iinc i_72_71 (by rfl) (by rw [l_72]; decide) (by rfl) ?_
        refine LW_goto (tg := 24) i_72_74 (by decide) ?_
        first
          | (exfalso; omega)
          | (refine LW_fg (hK _ _ _ ⟨rfl, (by rw [hI, hst, if_neg (by rw [← hx43]; exact h51), ← hx43]), upd f ((i : Nat) : Int).toNat (jI x43), ⟨hXR.1, fun a ha => ?_, ?_⟩, fun j hj => ?_⟩) (by repeat (first | exact trivial | refine ⟨rfl, ?_⟩))
             · show va_up X1.2 131 _ a = _
               unfold va_up
               rw [if_neg ha]
               exact hXR.2.1 a ha
             · show (if (131 : Nat) = 131 then some (.inr (0, 10, .inl (upd f ((i : Nat) : Int).toNat (jI x43)))) else X1.2 131) = _
               rw [if_pos rfl]
             · show upd f ((i : Nat) : Int).toNat (jI x43) j = jI (if j = i then spl ψ (plc ψ n i) i n 0 else plc ψ n i j)
               unfold upd
               rw [Int.toNat_natCast]
               by_cases q : j = i
               · rw [if_pos q, if_pos q, hx43]
               · rw [if_neg q, if_neg q]
                 exact hf j (by omega))
      refine LW_iconst i_72_54 ?_
      refine LW_iret i_72_55 r_72 ?_
      exact ⟨by rw [hI, hst, if_pos (by rw [← hx43, h51])]; decide, rfl, f, hXR⟩
    · intro s ψ1 X1 hI
      obtain ⟨e1, hI, f, hXR, hf⟩ := hI
      rw [e1]
      have hX1 : 132 ≤ X1.1 := by rw [hXR.1]; exact hX
      refine LW_iload_n i_72_24 (by rfl) ?_
      refine LW_aload_n i_72_25 (by rfl) ?_
      refine LW_gB (key := 103) i_72_26 f_72_68 (by omega) (by assumption) (by rfl) rfl hG (fun u26 v26 => ?_)
      refine LW_icge (tg := 77) i_72_29 (by decide) (by omega) (by omega) (fun h29 => ?_) (fun h29 => ?_)
      · refine LW_iload_n i_72_77 (by rfl) ?_
        exact LW_iretw i_72_78 r_72 ⟨by rw [hI]; rfl, rfl, f, hXR⟩
      exfalso; omega
    · exact ⟨rfl, rfl, f0, ⟨rfl, fun _ _ => rfl, hpl⟩, fun j hj => absurd hj (Nat.not_lt_zero j)⟩
  exfalso; omega
theorem m_72z {ψ : jSt} {n : Nat} (hn : ψ 2 81 = (n : Int)) (hn8 : n ≤ 8) (h103 : ψ 1 103 = 8) (hG : jG ψ) : JZ ZP xs L0 72 0 ([some (.ref 1), some (.int (jI 255))] ++ List.replicate 3 none) [] ψ (oI fun x φ => φ = ψ) :=
  JZ_of_LW (v := (fit ψ n 8 0 (jI 0)).toInt) (ψ2 := ψ) rfl fun X hX hY => by
    obtain ⟨Y, f, f', h0, h1, -⟩ := hY
    exact LW_post (m_72 h0 h1 hn hn8 h103 hG) fun v φ X' h => by
      obtain ⟨h2, h3, f9, h4⟩ := h
      exact ⟨h2, h3, XR_ZP h0 h1 h4⟩
end P40
