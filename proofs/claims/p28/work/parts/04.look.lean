theorem g_lookup_mem {β : Type} : ∀ {l : List (Nat × β)} {k : Nat} {v : β}, l.lookup k = some v → (k, v) ∈ l
  | [], _, _, h => by cases h
  | (a, b) :: l, k, v, h => by
    rw [List.lookup_cons] at h
    cases hk : (k == a) with
    | true =>
      rw [hk] at h
      cases h
      rw [eq_of_beq hk]
      exact List.mem_cons_self
    | false =>
      rw [hk] at h
      exact List.mem_cons_of_mem _ (g_lookup_mem h)
theorem g_getD_ge {α : Type} {L : List α} {c : Nat} {d : α} (h : L.length ≤ c) : L.getD c d = d := by
  rw [List.getD_eq_getElem?_getD, List.getElem?_eq_none h]
  rfl
theorem g_getD_mem {α : Type} {L : List α} {c : Nat} {d : α} (h : c < L.length) : L.getD c d ∈ L := by
  rw [List.getD_eq_getElem?_getD, List.getElem?_eq_getElem h]
  exact List.getElem_mem h
theorem g_look {β : Type} {L : List (List (Nat × β))} {P : Nat → Nat → β → Bool} (hv : (List.range L.length).all (fun c => (L.getD c []).all (fun e => P c e.1 e.2)) = true) {c ix : Nat} {v : β} (h : (L.getD c []).lookup ix = some v) : P c ix v = true := by
  rcases Nat.lt_or_ge c L.length with hc | hc
  · have h1 := List.all_eq_true.mp hv c (List.mem_range.mpr hc)
    exact List.all_eq_true.mp h1 (ix, v) (g_lookup_mem h)
  · rw [g_getD_ge hc] at h
    cases h
/-- an instruction's own length (0: a switch, or none of those used) -/
def glen : Instr → Nat
  | .aaload | .aastore | .aconst_null | .aload_n _ | .areturn | .arraylength | .astore_n _ | .athrow => 1
  | .aload _ | .astore _ | .bipush _ | .newarray _ | .iload _ | .istore _ | .lload _ | .lstore _ | .dload _ | .dstore _ | .ldc _ => 2
  | .anewarray _ | .checkcast _ | .getfield _ | .putfield _ | .getstatic _ | .goto _ | .if_acmp .. | .if_icmp .. | .ifCond .. | .ifnull _ | .ifnonnull _ | .iinc .. | .invokestatic _ | .invokespecial _ | .invokevirtual _ | .new _ | .sipush _ | .ldc_w _ | .ldc2_w _ => 3
  | .dup | .dup_x1 | .dup2 | .pop | .iadd | .isub | .imul | .idiv | .irem | .ineg | .iand | .ior | .ixor | .ishl | .ishr | .iushr | .ladd | .lmul | .lcmp | .i2l | .i2d | .ddiv | .dmul | .dsub | .dcmp _ | .dconst _ | .iconst _ | .lconst _ => 1
  | .iaload | .iastore | .laload | .lastore | .iload_n _ | .istore_n _ | .lload_n _ | .lstore_n _ | .dload_n _ | .dstore_n _ | .ireturn | .lreturn | .dreturn | .return_ => 1
  | .invokeinterface .. => 5
  | _ => 0
