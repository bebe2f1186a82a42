/-- a cell's form: an object's class and fields (none: a whole number; some r: a reference), a row of references, a row of whole numbers -/
abbrev jTm : Type := (Nat × List (Option Nat)) ⊕ (Nat × List Nat) ⊕ Nat
def jSk : List (Option jTm) := [none,
  some (.inl (5, [some 2, some 61, some 120, none, some 131])),
  some (.inl (4, [some 3, none, some 12, none, none, none, none, none, none, none, none, none, none, none, none, none, none, none])),
  some (.inr (.inl (3, [4, 5, 6, 7, 8, 9, 10, 11]))),
  some (.inl (0, [none, none, none, none, none, none, none, none, none, none, none, none, none])),
  some (.inl (0, [none, none, none, none, none, none, none, none, none, none, none, none, none])),
  some (.inl (0, [none, none, none, none, none, none, none, none, none, none, none, none, none])),
  some (.inl (0, [none, none, none, none, none, none, none, none, none, none, none, none, none])),
  some (.inl (0, [none, none, none, none, none, none, none, none, none, none, none, none, none])),
  some (.inl (0, [none, none, none, none, none, none, none, none, none, none, none, none, none])),
  some (.inl (0, [none, none, none, none, none, none, none, none, none, none, none, none, none])),
  some (.inl (0, [none, none, none, none, none, none, none, none, none, none, none, none, none])),
  some (.inr (.inl (4, [13, 21, 29, 37, 45, 53]))),
  some (.inl (1, [some 14, none, none])),
  some (.inr (.inl (2, [15, 16, 17, 18, 19, 20]))),
  some (.inl (2, [none, none, none, none, none, none])),
  some (.inl (2, [none, none, none, none, none, none])),
  some (.inl (2, [none, none, none, none, none, none])),
  some (.inl (2, [none, none, none, none, none, none])),
  some (.inl (2, [none, none, none, none, none, none])),
  some (.inl (2, [none, none, none, none, none, none])),
  some (.inl (1, [some 22, none, none])),
  some (.inr (.inl (2, [23, 24, 25, 26, 27, 28]))),
  some (.inl (2, [none, none, none, none, none, none])),
  some (.inl (2, [none, none, none, none, none, none])),
  some (.inl (2, [none, none, none, none, none, none])),
  some (.inl (2, [none, none, none, none, none, none])),
  some (.inl (2, [none, none, none, none, none, none])),
  some (.inl (2, [none, none, none, none, none, none])),
  some (.inl (1, [some 30, none, none])),
  some (.inr (.inl (2, [31, 32, 33, 34, 35, 36]))),
  some (.inl (2, [none, none, none, none, none, none])),
  some (.inl (2, [none, none, none, none, none, none])),
  some (.inl (2, [none, none, none, none, none, none])),
  some (.inl (2, [none, none, none, none, none, none])),
  some (.inl (2, [none, none, none, none, none, none])),
  some (.inl (2, [none, none, none, none, none, none])),
  some (.inl (1, [some 38, none, none])),
  some (.inr (.inl (2, [39, 40, 41, 42, 43, 44]))),
  some (.inl (2, [none, none, none, none, none, none])),
  some (.inl (2, [none, none, none, none, none, none])),
  some (.inl (2, [none, none, none, none, none, none])),
  some (.inl (2, [none, none, none, none, none, none])),
  some (.inl (2, [none, none, none, none, none, none])),
  some (.inl (2, [none, none, none, none, none, none])),
  some (.inl (1, [some 46, none, none])),
  some (.inr (.inl (2, [47, 48, 49, 50, 51, 52]))),
  some (.inl (2, [none, none, none, none, none, none])),
  some (.inl (2, [none, none, none, none, none, none])),
  some (.inl (2, [none, none, none, none, none, none])),
  some (.inl (2, [none, none, none, none, none, none])),
  some (.inl (2, [none, none, none, none, none, none])),
  some (.inl (2, [none, none, none, none, none, none])),
  some (.inl (1, [some 54, none, none])),
  some (.inr (.inl (2, [55, 56, 57, 58, 59, 60]))),
  some (.inl (2, [none, none, none, none, none, none])),
  some (.inl (2, [none, none, none, none, none, none])),
  some (.inl (2, [none, none, none, none, none, none])),
  some (.inl (2, [none, none, none, none, none, none])),
  some (.inl (2, [none, none, none, none, none, none])),
  some (.inl (2, [none, none, none, none, none, none])),
  some (.inl (4, [some 62, none, some 71, none, none, none, none, none, none, none, none, none, none, none, none, none, none, none])),
  some (.inr (.inl (3, [63, 64, 65, 66, 67, 68, 69, 70]))),
  some (.inl (0, [none, none, none, none, none, none, none, none, none, none, none, none, none])),
  some (.inl (0, [none, none, none, none, none, none, none, none, none, none, none, none, none])),
  some (.inl (0, [none, none, none, none, none, none, none, none, none, none, none, none, none])),
  some (.inl (0, [none, none, none, none, none, none, none, none, none, none, none, none, none])),
  some (.inl (0, [none, none, none, none, none, none, none, none, none, none, none, none, none])),
  some (.inl (0, [none, none, none, none, none, none, none, none, none, none, none, none, none])),
  some (.inl (0, [none, none, none, none, none, none, none, none, none, none, none, none, none])),
  some (.inl (0, [none, none, none, none, none, none, none, none, none, none, none, none, none])),
  some (.inr (.inl (4, [72, 80, 88, 96, 104, 112]))),
  some (.inl (1, [some 73, none, none])),
  some (.inr (.inl (2, [74, 75, 76, 77, 78, 79]))),
  some (.inl (2, [none, none, none, none, none, none])),
  some (.inl (2, [none, none, none, none, none, none])),
  some (.inl (2, [none, none, none, none, none, none])),
  some (.inl (2, [none, none, none, none, none, none])),
  some (.inl (2, [none, none, none, none, none, none])),
  some (.inl (2, [none, none, none, none, none, none])),
  some (.inl (1, [some 81, none, none])),
  some (.inr (.inl (2, [82, 83, 84, 85, 86, 87]))),
  some (.inl (2, [none, none, none, none, none, none])),
  some (.inl (2, [none, none, none, none, none, none])),
  some (.inl (2, [none, none, none, none, none, none])),
  some (.inl (2, [none, none, none, none, none, none])),
  some (.inl (2, [none, none, none, none, none, none])),
  some (.inl (2, [none, none, none, none, none, none])),
  some (.inl (1, [some 89, none, none])),
  some (.inr (.inl (2, [90, 91, 92, 93, 94, 95]))),
  some (.inl (2, [none, none, none, none, none, none])),
  some (.inl (2, [none, none, none, none, none, none])),
  some (.inl (2, [none, none, none, none, none, none])),
  some (.inl (2, [none, none, none, none, none, none])),
  some (.inl (2, [none, none, none, none, none, none])),
  some (.inl (2, [none, none, none, none, none, none])),
  some (.inl (1, [some 97, none, none])),
  some (.inr (.inl (2, [98, 99, 100, 101, 102, 103]))),
  some (.inl (2, [none, none, none, none, none, none])),
  some (.inl (2, [none, none, none, none, none, none])),
  some (.inl (2, [none, none, none, none, none, none])),
  some (.inl (2, [none, none, none, none, none, none])),
  some (.inl (2, [none, none, none, none, none, none])),
  some (.inl (2, [none, none, none, none, none, none])),
  some (.inl (1, [some 105, none, none])),
  some (.inr (.inl (2, [106, 107, 108, 109, 110, 111]))),
  some (.inl (2, [none, none, none, none, none, none])),
  some (.inl (2, [none, none, none, none, none, none])),
  some (.inl (2, [none, none, none, none, none, none])),
  some (.inl (2, [none, none, none, none, none, none])),
  some (.inl (2, [none, none, none, none, none, none])),
  some (.inl (2, [none, none, none, none, none, none])),
  some (.inl (1, [some 113, none, none])),
  some (.inr (.inl (2, [114, 115, 116, 117, 118, 119]))),
  some (.inl (2, [none, none, none, none, none, none])),
  some (.inl (2, [none, none, none, none, none, none])),
  some (.inl (2, [none, none, none, none, none, none])),
  some (.inl (2, [none, none, none, none, none, none])),
  some (.inl (2, [none, none, none, none, none, none])),
  some (.inl (2, [none, none, none, none, none, none])),
  some (.inr (.inl (5, [121, 122, 123, 124, 125, 126, 127, 128, 129, 130]))),
  some (.inl (3, [none, none, none, none])),
  some (.inl (3, [none, none, none, none])),
  some (.inl (3, [none, none, none, none])),
  some (.inl (3, [none, none, none, none])),
  some (.inl (3, [none, none, none, none])),
  some (.inl (3, [none, none, none, none])),
  some (.inl (3, [none, none, none, none])),
  some (.inl (3, [none, none, none, none])),
  some (.inl (3, [none, none, none, none])),
  some (.inl (3, [none, none, none, none]))]
abbrev jSt : Type := Nat → Nat → Int
def jF (ψ : jSt) (a : Nat) : Nat → List (Option Nat) → List Value
  | _, [] => []
  | k, none :: l => .int (jI (ψ a k)) :: jF ψ a (k + 1) l
  | k, some r :: l => .ref r :: jF ψ a (k + 1) l
def jC (ψ : jSt) (a : Nat) (t : jTm) : gE := match t with
  | .inl (ci, tm) => .inl (ci, jF ψ a (20 * ci) tm)
  | .inr (.inl (tag, rs)) => .inr (tag, rs.length, .inr (.inr (fun i => rs[i]?)))
  | .inr (.inr n) => .inr (0, n, .inl (fun i => jI (ψ a i)))
/-- the class's cells, and what lies behind them -/
def jM (ψ : jSt) (X : gM) : gM := (X.1, fun a => match jSk.getD a none with
  | some t => some (jC ψ a t)
  | none => X.2 a)
def jU (ψ : jSt) (a k : Nat) (v : Int) (a' k' : Nat) : Int := if k' = k ∧ a' = a then v else ψ a' k'
theorem jU_eq (ψ : jSt) (a k : Nat) (v : Int) : jU ψ a k v a k = v := if_pos ⟨rfl, rfl⟩
theorem jU_na {ψ : jSt} {a k a' k' : Nat} {v : Int} (h : ¬ a' = a) : jU ψ a k v a' k' = ψ a' k' := if_neg (fun q => h q.2)
theorem jU_nk {ψ : jSt} {a k a' k' : Nat} {v : Int} (h : ¬ k' = k) : jU ψ a k v a' k' = ψ a' k' := if_neg (fun q => h q.1)
theorem jSk_len : jSk.length = 131 := by decide +kernel
theorem jSk_lt {a : Nat} {t : jTm} (h : jSk.getD a none = some t) : a < 131 := by
  rcases Nat.lt_or_ge a 131 with h1 | h1
  · exact h1
  · rw [g_getD_ge (by rw [jSk_len]; exact h1)] at h; cases h
theorem jF_at (ψ : jSt) (a : Nat) : ∀ (l : List (Option Nat)) (k j : Nat), (jF ψ a j l)[k]? = (l[k]?).map (fun q => match q with
    | none => .int (jI (ψ a (j + k)))
    | some r => .ref r)
  | [], _, _ => rfl
  | none :: l, 0, j => rfl
  | some r :: l, 0, j => rfl
  | none :: l, k + 1, j => by
    have ih := jF_at ψ a l k (j + 1)
    rw [show j + 1 + k = j + (k + 1) by omega] at ih
    exact ih
  | some r :: l, k + 1, j => by
    have ih := jF_at ψ a l k (j + 1)
    rw [show j + 1 + k = j + (k + 1) by omega] at ih
    exact ih
theorem jF_len (ψ : jSt) (a : Nat) : ∀ (l : List (Option Nat)) (j : Nat), (jF ψ a j l).length = l.length
  | [], _ => rfl
  | none :: l, j => congrArg (· + 1) (jF_len ψ a l (j + 1))
  | some _ :: l, j => congrArg (· + 1) (jF_len ψ a l (j + 1))
theorem jF_lo (ψ : jSt) (a k : Nat) (v : Int) : ∀ (l : List (Option Nat)) (j : Nat), k < j → jF (jU ψ a k v) a j l = jF ψ a j l
  | [], _, _ => rfl
  | none :: l, j, h => by
    show Value.int (jI (jU ψ a k v a j)) :: jF (jU ψ a k v) a (j + 1) l = Value.int (jI (ψ a j)) :: jF ψ a (j + 1) l
    rw [jU_nk (by omega), jF_lo ψ a k v l (j + 1) (by omega)]
  | some r :: l, j, h => by
    show Value.ref r :: jF (jU ψ a k v) a (j + 1) l = Value.ref r :: jF ψ a (j + 1) l
    rw [jF_lo ψ a k v l (j + 1) (by omega)]
theorem jF_set (ψ : jSt) (a : Nat) (v : Int) : ∀ (l : List (Option Nat)) (k j : Nat), l[k]? = some none → (jF ψ a j l).set k (.int (jI v)) = jF (jU ψ a (j + k) v) a j l
  | [], _, _, h => by cases h
  | none :: l, 0, j, _ => by
    show Value.int (jI v) :: jF ψ a (j + 1) l = Value.int (jI (jU ψ a j v a j)) :: jF (jU ψ a j v) a (j + 1) l
    rw [jU_eq, jF_lo ψ a j v l (j + 1) (by omega)]
  | some r :: l, 0, j, h => by cases h
  | none :: l, k + 1, j, h => by
    have ih := jF_set ψ a v l k (j + 1) h
    rw [show j + 1 + k = j + (k + 1) by omega] at ih
    show Value.int (jI (ψ a j)) :: (jF ψ a (j + 1) l).set k (.int (jI v)) = Value.int (jI (jU ψ a (j + (k + 1)) v a j)) :: jF (jU ψ a (j + (k + 1)) v) a (j + 1) l
    rw [ih, jU_nk (by omega)]
  | some r :: l, k + 1, j, h => by
    have ih := jF_set ψ a v l k (j + 1) h
    rw [show j + 1 + k = j + (k + 1) by omega] at ih
    show Value.ref r :: (jF ψ a (j + 1) l).set k (.int (jI v)) = Value.ref r :: jF (jU ψ a (j + (k + 1)) v) a (j + 1) l
    rw [ih]
theorem jF_na (ψ : jSt) (a b k : Nat) (v : Int) (h : ¬ a = b) : ∀ (l : List (Option Nat)) (j : Nat), jF (jU ψ b k v) a j l = jF ψ a j l
  | [], _ => rfl
  | none :: l, j => by
    show Value.int (jI (jU ψ b k v a j)) :: jF (jU ψ b k v) a (j + 1) l = Value.int (jI (ψ a j)) :: jF ψ a (j + 1) l
    rw [jU_na h, jF_na ψ a b k v h l (j + 1)]
  | some r :: l, j => by
    show Value.ref r :: jF (jU ψ b k v) a (j + 1) l = Value.ref r :: jF ψ a (j + 1) l
    rw [jF_na ψ a b k v h l (j + 1)]
theorem jC_na {ψ : jSt} {a b k : Nat} {v : Int} (h : ¬ a = b) (t : jTm) : jC (jU ψ b k v) a t = jC ψ a t := by
  rcases t with ⟨ci, tm⟩ | ⟨tag, rs⟩ | n
  · show Sum.inl (ci, jF (jU ψ b k v) a (20 * ci) tm) = Sum.inl (ci, jF ψ a (20 * ci) tm)
    rw [jF_na ψ a b k v h]
  · rfl
  · show Sum.inr (0, n, Sum.inl (fun i => jI (jU ψ b k v a i))) = Sum.inr (0, n, Sum.inl (fun i => jI (ψ a i)))
    have e : (fun i => jI (jU ψ b k v a i)) = fun i => jI (ψ a i) := funext fun i => by rw [jU_na h]
    rw [e]
theorem jM_rd {ψ : jSt} {X : gM} {a : Nat} {t : jTm} (hX : 131 ≤ X.1) (h : jSk.getD a none = some t) : g_rd (jM ψ X) a = some (jC ψ a t) := by
  have hlt := jSk_lt h
  unfold g_rd jM
  dsimp only
  rw [if_pos (by omega), h]
theorem jM_wr {ψ : jSt} {X : gM} {a k : Nat} {ci : Nat} {tm : List (Option Nat)} {v : Int} (h : jSk.getD a none = some (.inl (ci, tm))) (hk : tm[k]? = some none) : ((jM ψ X).1, va_up (jM ψ X).2 a (some (.inl (ci, (jF ψ a (20 * ci) tm).set k (.int (jI v)))))) = jM (jU ψ a (20 * ci + k) v) X := by
  unfold jM
  show (X.1, _) = (X.1, _)
  congr 1
  funext b
  unfold va_up
  by_cases hb : b = a
  · subst hb
    rw [if_pos rfl, h]
    show some (Sum.inl (ci, (jF ψ b (20 * ci) tm).set k (.int (jI v)))) = some (Sum.inl (ci, jF (jU ψ b (20 * ci + k) v) b (20 * ci) tm))
    rw [jF_set ψ b v tm k (20 * ci) hk]
  · rw [if_neg hb]
    show (match jSk.getD b none with
      | some t => some (jC ψ b t)
      | none => X.2 b) = (match jSk.getD b none with
      | some t => some (jC (jU ψ a (20 * ci + k) v) b t)
      | none => X.2 b)
    cases jSk.getD b none with
    | none => rfl
    | some t =>
      show some (jC ψ b t) = some (jC (jU ψ a (20 * ci + k) v) b t)
      rw [jC_na hb]
/-- what lies behind the class's cells -/
theorem jM_rx {ψ : jSt} {X : gM} {a : Nat} (h : 131 ≤ a) : g_rd (jM ψ X) a = g_rd X a := by
  unfold g_rd jM
  dsimp only
  rw [g_getD_ge (L := jSk) (by rw [jSk_len]; exact h)]
theorem jM_wx {ψ : jSt} {X : gM} {a : Nat} (e : Option gE) (h : 131 ≤ a) : ((jM ψ X).1, va_up (jM ψ X).2 a e) = jM ψ (X.1, va_up X.2 a e) := by
  unfold jM
  show (X.1, _) = (X.1, _)
  congr 1
  funext b
  unfold va_up
  by_cases hb : b = a
  · subst hb
    rw [if_pos rfl, g_getD_ge (L := jSk) (by rw [jSk_len]; exact h)]
    dsimp only
    rw [if_pos rfl]
  · rw [if_neg hb]
    show (match jSk.getD b none with
      | some t => some (jC ψ b t)
      | none => X.2 b) = (match jSk.getD b none with
      | some t => some (jC ψ b t)
      | none => if b = a then e else X.2 b)
    cases jSk.getD b none with
    | none => exact (if_neg hb).symm
    | some t => rfl
theorem jM_nx {ψ : jSt} {X : gM} (e : Option gE) (h : 131 ≤ X.1) : ((jM ψ X).1 + 1, va_up (jM ψ X).2 (jM ψ X).1 e) = jM ψ (X.1 + 1, va_up X.2 X.1 e) := by
  have h1 := jM_wx (ψ := ψ) (X := X) (a := X.1) e h
  exact congrArg (fun q : gM => (X.1 + 1, q.2)) h1
/-! the kinds of cells -/
abbrev jBarT : List (Option Nat) := [none, none, none, none, none, none, none, none, none, none, none, none, none]
abbrev jMoveT : List (Option Nat) := [none, none, none, none, none, none]
abbrev jPieceT : List (Option Nat) := [none, none, none, none]
abbrev jRigT (r : Nat) : List (Option Nat) := [some (r + 1), none, some (r + 10), none, none, none, none, none, none, none, none, none, none, none, none, none, none, none]
abbrev jCueT (a : Nat) : List (Option Nat) := [some (a + 1), none, none]
abbrev jTowT : List (Option Nat) := [some 2, some 61, some 120, none, some 131]
abbrev jBar (a : Nat) : Prop := jSk.getD a none = some (.inl (0, jBarT))
abbrev jCue (a : Nat) : Prop := jSk.getD a none = some (.inl (1, jCueT a))
abbrev jMove (a : Nat) : Prop := jSk.getD a none = some (.inl (2, jMoveT))
abbrev jPiece (a : Nat) : Prop := jSk.getD a none = some (.inl (3, jPieceT))
abbrev jRig (a : Nat) : Prop := jSk.getD a none = some (.inl (4, jRigT a))
/-- a row of n references from a + 1 on, each s behind the last -/
abbrev jRow (a tag n s : Nat) : Prop := jSk.getD a none = some (.inr (.inl (tag, (List.range n).map (fun i => a + 1 + s * i))))
theorem jTow1 : jSk.getD 1 none = some (.inl (5, jTowT)) := by decide +kernel
abbrev jR2 (r : Nat) : Prop := r = 2 ∨ r = 61
theorem jR2_v : [2, 61].all (fun r => decide (jRig r) && (decide (jRow (r + 1) 3 8 1) && (decide (jRow (r + 10) 4 6 8) && ((List.range 8).all (fun b => decide (jBar (r + 2 + b))) && (List.range 6).all (fun c => decide (jCue (r + 11 + 8 * c)) && (decide (jRow (r + 12 + 8 * c) 2 6 1) && (List.range 6).all (fun m => decide (jMove (r + 13 + 8 * c + m)))))))) ) = true := by decide +kernel
theorem jR2_m {r : Nat} (h : jR2 r) : r ∈ [2, 61] := by rcases h with rfl | rfl <;> simp
theorem jR_rig {r : Nat} (h : jR2 r) : jRig r := by
  have h1 := List.all_eq_true.mp jR2_v r (jR2_m h)
  simp only [Bool.and_eq_true, decide_eq_true_eq] at h1
  exact h1.1
theorem jR_bars {r : Nat} (h : jR2 r) : jRow (r + 1) 3 8 1 := by
  have h1 := List.all_eq_true.mp jR2_v r (jR2_m h)
  simp only [Bool.and_eq_true, decide_eq_true_eq] at h1
  exact h1.2.1
theorem jR_cues {r : Nat} (h : jR2 r) : jRow (r + 10) 4 6 8 := by
  have h1 := List.all_eq_true.mp jR2_v r (jR2_m h)
  simp only [Bool.and_eq_true, decide_eq_true_eq] at h1
  exact h1.2.2.1
theorem jR_bar {r b : Nat} (h : jR2 r) (hb : b < 8) : jBar (r + 2 + b) := by
  have h1 := List.all_eq_true.mp jR2_v r (jR2_m h)
  simp only [Bool.and_eq_true] at h1
  exact of_decide_eq_true (List.all_eq_true.mp h1.2.2.2.1 b (List.mem_range.mpr hb))
theorem jR_cue {r c : Nat} (h : jR2 r) (hc : c < 6) : jCue (r + 11 + 8 * c) ∧ jRow (r + 12 + 8 * c) 2 6 1 := by
  have h1 := List.all_eq_true.mp jR2_v r (jR2_m h)
  simp only [Bool.and_eq_true] at h1
  have h2 := List.all_eq_true.mp h1.2.2.2.2 c (List.mem_range.mpr hc)
  simp only [Bool.and_eq_true, decide_eq_true_eq] at h2
  exact ⟨h2.1, h2.2.1⟩
theorem jR_move {r c m : Nat} (h : jR2 r) (hc : c < 6) (hm : m < 6) : jMove (r + 13 + 8 * c + m) := by
  have h1 := List.all_eq_true.mp jR2_v r (jR2_m h)
  simp only [Bool.and_eq_true] at h1
  have h2 := List.all_eq_true.mp h1.2.2.2.2 c (List.mem_range.mpr hc)
  simp only [Bool.and_eq_true] at h2
  exact of_decide_eq_true (List.all_eq_true.mp h2.2.2 m (List.mem_range.mpr hm))
theorem jPieces : jRow 120 5 10 1 := by decide +kernel
theorem jPiece_v : (List.range 10).all (fun p => decide (jPiece (121 + p))) = true := by decide +kernel
theorem jR_piece {p : Nat} (hp : p < 10) : jPiece (121 + p) := of_decide_eq_true (List.all_eq_true.mp jPiece_v p (List.mem_range.mpr hp))
section JM
variable {xs : Nat → Int32} {L y pc n : Nat} {lv : gL} {st : List Value} {ψ : jSt} {X : gM} {c d : Nat} {o : gOut}
theorem J_gI {ix ci k a key : Nat} {q : Nat × Option String × String} {tm : List (Option Nat)} (hI : gI y pc = some (.getfield ix, n)) (hf : gFld y ix = some (ci, k, q)) (hX : 131 ≤ X.1) (hk : jSk.getD a none = some (.inl (ci, tm))) (ht : tm[k]? = some none) (he : 20 * ci + k = key) (h : g_R xs L y (pc + 3) lv (.int (jI (ψ a key)) :: st) (jM ψ X) c d o) : g_R xs L y pc lv (.ref a :: st) (jM ψ X) c d o := by
  subst he
  obtain ⟨j, host, ref⟩ := q
  refine g_R_stp (j_thr hI rfl) hI rfl rfl (q := (pc + 3, lv, .int (jI (ψ a (20 * ci + k))) :: st, jM ψ X, c, d)) ?_ ⟨Nat.le_refl _, Nat.le_refl _, Nat.le_refl _⟩ h
  simp only [g_stp, hf, g_pR, jM_rd hX hk, jC]
  rw [if_pos trivial, jF_at, ht]
  simp
theorem J_gR {ix ci k a r : Nat} {q : Nat × Option String × String} {tm : List (Option Nat)} (hI : gI y pc = some (.getfield ix, n)) (hf : gFld y ix = some (ci, k, q)) (hX : 131 ≤ X.1) (hk : jSk.getD a none = some (.inl (ci, tm))) (ht : tm[k]? = some (some r)) (h : g_R xs L y (pc + 3) lv (.ref r :: st) (jM ψ X) c d o) : g_R xs L y pc lv (.ref a :: st) (jM ψ X) c d o := by
  obtain ⟨j, host, ref⟩ := q
  refine g_R_stp (j_thr hI rfl) hI rfl rfl (q := (pc + 3, lv, .ref r :: st, jM ψ X, c, d)) ?_ ⟨Nat.le_refl _, Nat.le_refl _, Nat.le_refl _⟩ h
  simp only [g_stp, hf, g_pR, jM_rd hX hk, jC]
  rw [if_pos trivial, jF_at, ht]
  simp
theorem J_pI {ix ci k a j key : Nat} {host : Option String} {ref : String} {tm : List (Option Nat)} {v : Int} (hI : gI y pc = some (.putfield ix, n)) (hf : gFld y ix = some (ci, k, j, host, ref)) (hX : 131 ≤ X.1) (hk : jSk.getD a none = some (.inl (ci, tm))) (ht : tm[k]? = some none) (he : 20 * ci + k = key) (hp : g_put (g_ft ci k) (.int (jI v)) = true) (hpf : g_pf y ci k host = true) (h : g_R xs L y (pc + 3) lv st (jM (jU ψ a key v) X) c d o) : g_R xs L y pc lv (.int (jI v) :: .ref a :: st) (jM ψ X) c d o := by
  subst he
  refine g_R_stp (j_thr hI rfl) hI rfl rfl (q := (pc + 3, lv, st, jM (jU ψ a (20 * ci + k) v) X, c, d)) ?_ ⟨Nat.le_refl _, Nat.le_refl _, Nat.le_refl _⟩ h
  simp only [g_stp, hf, g_pRV, jM_rd hX hk, jC]
  have hlen : k < (jF ψ a (20 * ci) tm).length := by rw [jF_len]; exact (List.getElem?_eq_some_iff.mp ht).1
  rw [if_pos ⟨trivial, hlen, hp, rfl, hpf⟩, jM_wr hk ht]
theorem J_aald {a tag nn s : Nat} {x : Int} (hI : gI y pc = some (.aaload, n)) (hX : 131 ≤ X.1) (hk : jRow a tag nn s) (ho : g_obj tag = true) (h0 : 0 ≤ x) (h1 : x < (nn : Int)) (hn : nn ≤ 1000) (h : g_R xs L y (pc + 1) lv (.ref (a + 1 + s * x.toNat) :: st) (jM ψ X) c d o) : g_R xs L y pc lv (.int (jI x) :: .ref a :: st) (jM ψ X) c d o := by
  refine g_R_stp (j_thr hI rfl) hI rfl rfl (q := (pc + 1, lv, .ref (a + 1 + s * x.toNat) :: st, jM ψ X, c, d)) ?_ ⟨Nat.le_refl _, Nat.le_refl _, Nat.le_refl _⟩ h
  have hlt : x.toNat < nn := by omega
  simp only [g_stp, g_pRI, jM_rd hX hk, jC]
  have hix : g_ix (jI x) ((List.range nn).map (fun i => a + 1 + s * i)).length = true := by
    unfold g_ix
    rw [jI_nat h0 (by omega), List.length_map, List.length_range]
    have e1 : ¬ jI x < 0 := fun q => by
      have := (jI_lt (y := 0) (by omega) (by omega) (by omega) (by omega)).mp q
      omega
    rw [decide_eq_false e1, decide_eq_false (by omega)]
    rfl
  rw [if_pos ⟨hix, ho⟩, jI_nat h0 (by omega), List.getElem?_map, List.getElem?_range hlt]
  rfl
end JM
