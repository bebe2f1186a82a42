section
-- ===== PART A: goes FIRST, ahead of the names: the tables' words, and 'selects' of the private methods out of them =====
/-- a private method of a class that the tables say can be made, by its rows of tables_1 -/
def lw_okq (q : MethodName × Nat) : Prop := (q.1.cls ≠ "java/lang/invoke/MethodHandle" ∧ q.1.cls ≠ "java/lang/invoke/VarHandle") ∧ Cond.instantiable q.1.cls q.2 ∈ tables_1 ∧ Cond.privateMethod q.1 ∈ tables_1 ∧ Cond.instanceMethod q.1 ∈ tables_1
theorem lw_p0 : lw_okq (⟨"java/lang/Throwable", "fillInStackTrace", "(I)Ljava/lang/Throwable;"⟩, 6) := ⟨⟨by decide +kernel, by decide +kernel⟩, List.mem_of_getElem? (i := 314) (by decide +kernel), List.mem_of_getElem? (i := 312) (by decide +kernel), List.mem_of_getElem? (i := 313) (by decide +kernel)⟩
theorem lw_p1 : lw_okq (⟨"FlyTower$Rig", "barAt", "(I)LFlyTower$Bar;"⟩, 18) := ⟨⟨by decide +kernel, by decide +kernel⟩, List.mem_of_getElem? (i := 26) (by decide +kernel), List.mem_of_getElem? (i := 383) (by decide +kernel), List.mem_of_getElem? (i := 384) (by decide +kernel)⟩
theorem lw_p2 : lw_okq (⟨"FlyTower", "pieceAt", "(I)LFlyTower$Piece;"⟩, 5) := ⟨⟨by decide +kernel, by decide +kernel⟩, List.mem_of_getElem? (i := 18) (by decide +kernel), List.mem_of_getElem? (i := 407) (by decide +kernel), List.mem_of_getElem? (i := 408) (by decide +kernel)⟩
theorem lw_p3 : lw_okq (⟨"FlyTower", "refuseUnlessAtRest", "(LFlyTower$Bar;)V"⟩, 5) := ⟨⟨by decide +kernel, by decide +kernel⟩, List.mem_of_getElem? (i := 18) (by decide +kernel), List.mem_of_getElem? (i := 415) (by decide +kernel), List.mem_of_getElem? (i := 416) (by decide +kernel)⟩
theorem lw_p4 : lw_okq (⟨"FlyTower", "weigh", "(LFlyTower$Bar;)V"⟩, 5) := ⟨⟨by decide +kernel, by decide +kernel⟩, List.mem_of_getElem? (i := 18) (by decide +kernel), List.mem_of_getElem? (i := 422) (by decide +kernel), List.mem_of_getElem? (i := 423) (by decide +kernel)⟩
theorem lw_p5 : lw_okq (⟨"FlyTower$Bar", "difference", "()I"⟩, 13) := ⟨⟨by decide +kernel, by decide +kernel⟩, List.mem_of_getElem? (i := 33) (by decide +kernel), List.mem_of_getElem? (i := 440) (by decide +kernel), List.mem_of_getElem? (i := 441) (by decide +kernel)⟩
theorem lw_p6 : lw_okq (⟨"FlyTower$Rig", "cueAt", "(I)LFlyTower$Cue;"⟩, 18) := ⟨⟨by decide +kernel, by decide +kernel⟩, List.mem_of_getElem? (i := 26) (by decide +kernel), List.mem_of_getElem? (i := 448) (by decide +kernel), List.mem_of_getElem? (i := 449) (by decide +kernel)⟩
theorem lw_p7 : lw_okq (⟨"FlyTower$Rig", "begin", "(I)V"⟩, 18) := ⟨⟨by decide +kernel, by decide +kernel⟩, List.mem_of_getElem? (i := 26) (by decide +kernel), List.mem_of_getElem? (i := 453) (by decide +kernel), List.mem_of_getElem? (i := 454) (by decide +kernel)⟩
theorem lw_p8 : lw_okq (⟨"FlyTower$Cue", "openAll", "()V"⟩, 3) := ⟨⟨by decide +kernel, by decide +kernel⟩, List.mem_of_getElem? (i := 99) (by decide +kernel), List.mem_of_getElem? (i := 458) (by decide +kernel), List.mem_of_getElem? (i := 459) (by decide +kernel)⟩
theorem lw_p9 : lw_okq (⟨"FlyTower", "refuseUnlessRunning", "()V"⟩, 5) := ⟨⟨by decide +kernel, by decide +kernel⟩, List.mem_of_getElem? (i := 18) (by decide +kernel), List.mem_of_getElem? (i := 466) (by decide +kernel), List.mem_of_getElem? (i := 467) (by decide +kernel)⟩
theorem lw_p10 : lw_okq (⟨"FlyTower$Rig", "openMoves", "()I"⟩, 18) := ⟨⟨by decide +kernel, by decide +kernel⟩, List.mem_of_getElem? (i := 26) (by decide +kernel), List.mem_of_getElem? (i := 475) (by decide +kernel), List.mem_of_getElem? (i := 476) (by decide +kernel)⟩
theorem lw_p11 : lw_okq (⟨"FlyTower$Cue", "openMoves", "()I"⟩, 3) := ⟨⟨by decide +kernel, by decide +kernel⟩, List.mem_of_getElem? (i := 99) (by decide +kernel), List.mem_of_getElem? (i := 479) (by decide +kernel), List.mem_of_getElem? (i := 480) (by decide +kernel)⟩
theorem lw_p12 : lw_okq (⟨"FlyTower$Rig", "rest", "()V"⟩, 18) := ⟨⟨by decide +kernel, by decide +kernel⟩, List.mem_of_getElem? (i := 26) (by decide +kernel), List.mem_of_getElem? (i := 483) (by decide +kernel), List.mem_of_getElem? (i := 484) (by decide +kernel)⟩
theorem lw_p13 : lw_okq (⟨"FlyTower$Cue", "moveAt", "(I)LFlyTower$Move;"⟩, 3) := ⟨⟨by decide +kernel, by decide +kernel⟩, List.mem_of_getElem? (i := 99) (by decide +kernel), List.mem_of_getElem? (i := 505) (by decide +kernel), List.mem_of_getElem? (i := 506) (by decide +kernel)⟩
theorem lw_p14 : lw_okq (⟨"FlyTower$Rig", "brokenBrakes", "()I"⟩, 18) := ⟨⟨by decide +kernel, by decide +kernel⟩, List.mem_of_getElem? (i := 26) (by decide +kernel), List.mem_of_getElem? (i := 517) (by decide +kernel), List.mem_of_getElem? (i := 518) (by decide +kernel)⟩
theorem lw_p15 : lw_okq (⟨"FlyTower", "digestOfMoves", "(JI)J"⟩, 5) := ⟨⟨by decide +kernel, by decide +kernel⟩, List.mem_of_getElem? (i := 18) (by decide +kernel), List.mem_of_getElem? (i := 531) (by decide +kernel), List.mem_of_getElem? (i := 532) (by decide +kernel)⟩
def lw_privs_1 : List (MethodName × Nat) := [(⟨"java/lang/Throwable", "fillInStackTrace", "(I)Ljava/lang/Throwable;"⟩, 6), (⟨"FlyTower$Rig", "barAt", "(I)LFlyTower$Bar;"⟩, 18), (⟨"FlyTower", "pieceAt", "(I)LFlyTower$Piece;"⟩, 5), (⟨"FlyTower", "refuseUnlessAtRest", "(LFlyTower$Bar;)V"⟩, 5), (⟨"FlyTower", "weigh", "(LFlyTower$Bar;)V"⟩, 5), (⟨"FlyTower$Bar", "difference", "()I"⟩, 13), (⟨"FlyTower$Rig", "cueAt", "(I)LFlyTower$Cue;"⟩, 18), (⟨"FlyTower$Rig", "begin", "(I)V"⟩, 18), (⟨"FlyTower$Cue", "openAll", "()V"⟩, 3), (⟨"FlyTower", "refuseUnlessRunning", "()V"⟩, 5), (⟨"FlyTower$Rig", "openMoves", "()I"⟩, 18), (⟨"FlyTower$Cue", "openMoves", "()I"⟩, 3), (⟨"FlyTower$Rig", "rest", "()V"⟩, 18), (⟨"FlyTower$Cue", "moveAt", "(I)LFlyTower$Move;"⟩, 3), (⟨"FlyTower$Rig", "brokenBrakes", "()I"⟩, 18), (⟨"FlyTower", "digestOfMoves", "(JI)J"⟩, 5)]
theorem lw_r1 : ∀ q ∈ lw_privs_1, lw_okq q := List.forall_mem_cons.mpr ⟨lw_p0, List.forall_mem_cons.mpr ⟨lw_p1, List.forall_mem_cons.mpr ⟨lw_p2, List.forall_mem_cons.mpr ⟨lw_p3, List.forall_mem_cons.mpr ⟨lw_p4, List.forall_mem_cons.mpr ⟨lw_p5, List.forall_mem_cons.mpr ⟨lw_p6, List.forall_mem_cons.mpr ⟨lw_p7, List.forall_mem_cons.mpr ⟨lw_p8, List.forall_mem_cons.mpr ⟨lw_p9, List.forall_mem_cons.mpr ⟨lw_p10, List.forall_mem_cons.mpr ⟨lw_p11, List.forall_mem_cons.mpr ⟨lw_p12, List.forall_mem_cons.mpr ⟨lw_p13, List.forall_mem_cons.mpr ⟨lw_p14, List.forall_mem_cons.mpr ⟨lw_p15, fun _ h => absurd h List.not_mem_nil⟩⟩⟩⟩⟩⟩⟩⟩⟩⟩⟩⟩⟩⟩⟩⟩
theorem lw_p16 : lw_okq (⟨"FlyTower", "rehearse", "(I)I"⟩, 5) := ⟨⟨by decide +kernel, by decide +kernel⟩, List.mem_of_getElem? (i := 18) (by decide +kernel), List.mem_of_getElem? (i := 536) (by decide +kernel), List.mem_of_getElem? (i := 537) (by decide +kernel)⟩
theorem lw_p17 : lw_okq (⟨"FlyTower$Rig", "copyFrom", "(LFlyTower$Rig;)V"⟩, 18) := ⟨⟨by decide +kernel, by decide +kernel⟩, List.mem_of_getElem? (i := 26) (by decide +kernel), List.mem_of_getElem? (i := 540) (by decide +kernel), List.mem_of_getElem? (i := 541) (by decide +kernel)⟩
theorem lw_p18 : lw_okq (⟨"FlyTower$Bar", "copyFrom", "(LFlyTower$Bar;)V"⟩, 13) := ⟨⟨by decide +kernel, by decide +kernel⟩, List.mem_of_getElem? (i := 33) (by decide +kernel), List.mem_of_getElem? (i := 544) (by decide +kernel), List.mem_of_getElem? (i := 545) (by decide +kernel)⟩
theorem lw_p19 : lw_okq (⟨"FlyTower$Cue", "copyFrom", "(LFlyTower$Cue;)V"⟩, 3) := ⟨⟨by decide +kernel, by decide +kernel⟩, List.mem_of_getElem? (i := 99) (by decide +kernel), List.mem_of_getElem? (i := 548) (by decide +kernel), List.mem_of_getElem? (i := 549) (by decide +kernel)⟩
theorem lw_p20 : lw_okq (⟨"FlyTower$Move", "copyFrom", "(LFlyTower$Move;)V"⟩, 6) := ⟨⟨by decide +kernel, by decide +kernel⟩, List.mem_of_getElem? (i := 106) (by decide +kernel), List.mem_of_getElem? (i := 552) (by decide +kernel), List.mem_of_getElem? (i := 553) (by decide +kernel)⟩
theorem lw_p21 : lw_okq (⟨"FlyTower$Rig", "mendBrakes", "()V"⟩, 18) := ⟨⟨by decide +kernel, by decide +kernel⟩, List.mem_of_getElem? (i := 26) (by decide +kernel), List.mem_of_getElem? (i := 556) (by decide +kernel), List.mem_of_getElem? (i := 557) (by decide +kernel)⟩
theorem lw_p22 : lw_okq (⟨"FlyTower$Rig", "playSecond", "()V"⟩, 18) := ⟨⟨by decide +kernel, by decide +kernel⟩, List.mem_of_getElem? (i := 26) (by decide +kernel), List.mem_of_getElem? (i := 560) (by decide +kernel), List.mem_of_getElem? (i := 561) (by decide +kernel)⟩
theorem lw_p23 : lw_okq (⟨"FlyTower$Rig", "playMoves", "(LFlyTower$Cue;)V"⟩, 18) := ⟨⟨by decide +kernel, by decide +kernel⟩, List.mem_of_getElem? (i := 26) (by decide +kernel), List.mem_of_getElem? (i := 564) (by decide +kernel), List.mem_of_getElem? (i := 565) (by decide +kernel)⟩
theorem lw_p24 : lw_okq (⟨"FlyTower$Rig", "mayGo", "(LFlyTower$Move;LFlyTower$Bar;)Z"⟩, 18) := ⟨⟨by decide +kernel, by decide +kernel⟩, List.mem_of_getElem? (i := 26) (by decide +kernel), List.mem_of_getElem? (i := 569) (by decide +kernel), List.mem_of_getElem? (i := 570) (by decide +kernel)⟩
theorem lw_p25 : lw_okq (⟨"FlyTower$Bar", "differenceWithoutSign", "()I"⟩, 13) := ⟨⟨by decide +kernel, by decide +kernel⟩, List.mem_of_getElem? (i := 33) (by decide +kernel), List.mem_of_getElem? (i := 573) (by decide +kernel), List.mem_of_getElem? (i := 574) (by decide +kernel)⟩
theorem lw_p26 : lw_okq (⟨"FlyTower$Rig", "goNearer", "(LFlyTower$Move;LFlyTower$Bar;)V"⟩, 18) := ⟨⟨by decide +kernel, by decide +kernel⟩, List.mem_of_getElem? (i := 26) (by decide +kernel), List.mem_of_getElem? (i := 578) (by decide +kernel), List.mem_of_getElem? (i := 579) (by decide +kernel)⟩
theorem lw_p27 : lw_okq (⟨"FlyTower$Rig", "touchesAnew", "(LFlyTower$Bar;I)Z"⟩, 18) := ⟨⟨by decide +kernel, by decide +kernel⟩, List.mem_of_getElem? (i := 26) (by decide +kernel), List.mem_of_getElem? (i := 586) (by decide +kernel), List.mem_of_getElem? (i := 587) (by decide +kernel)⟩
theorem lw_p28 : lw_okq (⟨"FlyTower$Bar", "touchesAt", "(ILFlyTower$Bar;)Z"⟩, 13) := ⟨⟨by decide +kernel, by decide +kernel⟩, List.mem_of_getElem? (i := 33) (by decide +kernel), List.mem_of_getElem? (i := 590) (by decide +kernel), List.mem_of_getElem? (i := 591) (by decide +kernel)⟩
theorem lw_p29 : lw_okq (⟨"FlyTower$Bar", "goTo", "(I)V"⟩, 13) := ⟨⟨by decide +kernel, by decide +kernel⟩, List.mem_of_getElem? (i := 33) (by decide +kernel), List.mem_of_getElem? (i := 594) (by decide +kernel), List.mem_of_getElem? (i := 595) (by decide +kernel)⟩
theorem lw_p30 : lw_okq (⟨"FlyTower$Rig", "runAway", "(LFlyTower$Bar;)V"⟩, 18) := ⟨⟨by decide +kernel, by decide +kernel⟩, List.mem_of_getElem? (i := 26) (by decide +kernel), List.mem_of_getElem? (i := 598) (by decide +kernel), List.mem_of_getElem? (i := 599) (by decide +kernel)⟩
theorem lw_p31 : lw_okq (⟨"FlyTower$Rig", "judgeRun", "(LFlyTower$Bar;I)V"⟩, 18) := ⟨⟨by decide +kernel, by decide +kernel⟩, List.mem_of_getElem? (i := 26) (by decide +kernel), List.mem_of_getElem? (i := 603) (by decide +kernel), List.mem_of_getElem? (i := 604) (by decide +kernel)⟩
def lw_privs_2 : List (MethodName × Nat) := [(⟨"FlyTower", "rehearse", "(I)I"⟩, 5), (⟨"FlyTower$Rig", "copyFrom", "(LFlyTower$Rig;)V"⟩, 18), (⟨"FlyTower$Bar", "copyFrom", "(LFlyTower$Bar;)V"⟩, 13), (⟨"FlyTower$Cue", "copyFrom", "(LFlyTower$Cue;)V"⟩, 3), (⟨"FlyTower$Move", "copyFrom", "(LFlyTower$Move;)V"⟩, 6), (⟨"FlyTower$Rig", "mendBrakes", "()V"⟩, 18), (⟨"FlyTower$Rig", "playSecond", "()V"⟩, 18), (⟨"FlyTower$Rig", "playMoves", "(LFlyTower$Cue;)V"⟩, 18), (⟨"FlyTower$Rig", "mayGo", "(LFlyTower$Move;LFlyTower$Bar;)Z"⟩, 18), (⟨"FlyTower$Bar", "differenceWithoutSign", "()I"⟩, 13), (⟨"FlyTower$Rig", "goNearer", "(LFlyTower$Move;LFlyTower$Bar;)V"⟩, 18), (⟨"FlyTower$Rig", "touchesAnew", "(LFlyTower$Bar;I)Z"⟩, 18), (⟨"FlyTower$Bar", "touchesAt", "(ILFlyTower$Bar;)Z"⟩, 13), (⟨"FlyTower$Bar", "goTo", "(I)V"⟩, 13), (⟨"FlyTower$Rig", "runAway", "(LFlyTower$Bar;)V"⟩, 18), (⟨"FlyTower$Rig", "judgeRun", "(LFlyTower$Bar;I)V"⟩, 18)]
theorem lw_r2 : ∀ q ∈ lw_privs_2, lw_okq q := List.forall_mem_cons.mpr ⟨lw_p16, List.forall_mem_cons.mpr ⟨lw_p17, List.forall_mem_cons.mpr ⟨lw_p18, List.forall_mem_cons.mpr ⟨lw_p19, List.forall_mem_cons.mpr ⟨lw_p20, List.forall_mem_cons.mpr ⟨lw_p21, List.forall_mem_cons.mpr ⟨lw_p22, List.forall_mem_cons.mpr ⟨lw_p23, List.forall_mem_cons.mpr ⟨lw_p24, List.forall_mem_cons.mpr ⟨lw_p25, List.forall_mem_cons.mpr ⟨lw_p26, List.forall_mem_cons.mpr ⟨lw_p27, List.forall_mem_cons.mpr ⟨lw_p28, List.forall_mem_cons.mpr ⟨lw_p29, List.forall_mem_cons.mpr ⟨lw_p30, List.forall_mem_cons.mpr ⟨lw_p31, fun _ h => absurd h List.not_mem_nil⟩⟩⟩⟩⟩⟩⟩⟩⟩⟩⟩⟩⟩⟩⟩⟩
theorem lw_p32 : lw_okq (⟨"FlyTower$Rig", "finish", "(I)V"⟩, 18) := ⟨⟨by decide +kernel, by decide +kernel⟩, List.mem_of_getElem? (i := 26) (by decide +kernel), List.mem_of_getElem? (i := 608) (by decide +kernel), List.mem_of_getElem? (i := 609) (by decide +kernel)⟩
theorem lw_p33 : lw_okq (⟨"FlyTower", "smallestPlace", "(II)I"⟩, 5) := ⟨⟨by decide +kernel, by decide +kernel⟩, List.mem_of_getElem? (i := 18) (by decide +kernel), List.mem_of_getElem? (i := 627) (by decide +kernel), List.mem_of_getElem? (i := 628) (by decide +kernel)⟩
theorem lw_p34 : lw_okq (⟨"FlyTower", "isBehindFormer", "(III)Z"⟩, 5) := ⟨⟨by decide +kernel, by decide +kernel⟩, List.mem_of_getElem? (i := 18) (by decide +kernel), List.mem_of_getElem? (i := 631) (by decide +kernel), List.mem_of_getElem? (i := 632) (by decide +kernel)⟩
theorem lw_p35 : lw_okq (⟨"FlyTower$Cue", "hasMoveOf", "(I)Z"⟩, 3) := ⟨⟨by decide +kernel, by decide +kernel⟩, List.mem_of_getElem? (i := 99) (by decide +kernel), List.mem_of_getElem? (i := 660) (by decide +kernel), List.mem_of_getElem? (i := 661) (by decide +kernel)⟩
def lw_privs_3 : List (MethodName × Nat) := [(⟨"FlyTower$Rig", "finish", "(I)V"⟩, 18), (⟨"FlyTower", "smallestPlace", "(II)I"⟩, 5), (⟨"FlyTower", "isBehindFormer", "(III)Z"⟩, 5), (⟨"FlyTower$Cue", "hasMoveOf", "(I)Z"⟩, 3)]
theorem lw_r3 : ∀ q ∈ lw_privs_3, lw_okq q := List.forall_mem_cons.mpr ⟨lw_p32, List.forall_mem_cons.mpr ⟨lw_p33, List.forall_mem_cons.mpr ⟨lw_p34, List.forall_mem_cons.mpr ⟨lw_p35, fun _ h => absurd h List.not_mem_nil⟩⟩⟩⟩
def lw_privs : List (MethodName × Nat) := lw_privs_1 ++ (lw_privs_2 ++ (lw_privs_3))
def lw_tbl : List Cond := k2_sels lw_privs ++ tables_1
theorem lw_privs_ok : ∀ q ∈ lw_privs, lw_okq q := by
  show ∀ q ∈ lw_privs_1 ++ (lw_privs_2 ++ (lw_privs_3)), lw_okq q
  exact List.forall_mem_append.mpr ⟨lw_r1, List.forall_mem_append.mpr ⟨lw_r2, lw_r3⟩⟩
/-- the streams that the claim lets the run draw from -/
abbrev lw_cs : List Choice := [Jvm.Choice.named "NaN.bits", Jvm.Choice.named "NaN.copy"]
theorem lw_bits : nanBits ∈ lw_cs := by first | decide | exact List.mem_cons_self | simp [lw_cs, nanBits]
end
section
/-! ===== BEGIN exceptions that leave a method, and their catching by the caller (launches without stack traces) ===== -/
section VXA
/-! The laws vx_back, vx_callV, vx_callS, vx_callSW, vx_throw0, vx_throwS follow proofs of the library, with one case more: JvmDerived/Free/Laws.lean (Back.of_free), Shelf42/LK1.lean (callV, callS), Shelf/KitTraced.lean (throwNew0V, throwNewS). -/
/-- where a method has thrown q: the class by its name, the cell, what was written, the world -/
def vx_T (XC : String → State → State → Prop) (st : State) (q : Addr) (t : State) (mc ms : Nat) (free : Addr → Prop) : Prop :=
  ∃ (E : String) (ce : Cell) (L : List Loc), XC E st t ∧ t.heap[q]? = some ce ∧ ce.vm = .none ∧ st.vm.findClass E = some ce.cls ∧ st.WarmedH t.vm ∧ st.sameButNew ({ t with vm := st.vm } : State) L mc ms ∧ ∀ z ∈ L, free z.base
def vx_Q (Qc : Array Value → State → Outcome → State → Prop) (XC : String → State → State → Prop) (mc ms : Nat) (free : Addr → Prop) : Array Value → State → Outcome → State → Prop := fun a st o t =>
  (Qc a st o t ∧ ∃ L, FrameEnd st o t L mc ms ∧ ∀ q ∈ L, free q.base) ∨ ∃ q, o = .threw q ∧ vx_T XC st q t mc ms free
/-- a callee that returns or throws -/
def vx_Met (l : Launch) (y : MethodName) (ws : List Cond) (rm : Room) (Pc : Array Value → State → Prop) (Qc : Array Value → State → Outcome → State → Prop) (XC : String → State → State → Prop) (mc ms : Nat) (free : Addr → Prop) : Prop :=
  MetFree l y (headSpec ws rm) Pc (fun _ _ _ _ _ => True) (vx_Q Qc XC mc ms free)
def vx_Post (XC : String → State → State → Prop) (mc ms : Nat) (free : Addr → Prop) : Pt → Array Value → Addr → Pt → Prop := fun A a q B =>
  ∃ (g : JFrame) (mk : MethodId) (t : State) (L : List Loc) (E : String) (ce : Cell), B.U.heap = t.heap ∧ B.U.vm = t.vm ∧ XC E (A.U.calling g mk a) t ∧ t.heap[q]? = some ce ∧ ce.vm = .none ∧ A.U.vm.findClass E = some ce.cls ∧ B.locs = A.locs ++ L ∧ (∀ z ∈ L, free z.base) ∧ B.cells = A.cells + mc ∧ B.slots = A.slots + ms
def vx_Back (l : Launch) (R : Room) (p : Program) (e : Env) (below : List Frame) (s : State) (sargs : Array Value) (y : MethodName) (len W9 : Nat)
    (Pre : Pt → Array Value → Prop) (Post : Pt → Array Value → Option Value → Pt → Prop) (PostX : Pt → Array Value → Addr → Pt → Prop) : Prop :=
  ∀ (m : MethodId) (meth : Method) (c : Code) (A : Pt) (g : JFrame) (ig : Instr) (mk : MethodId) (a : Array Value),
    Stand p l e R s m sargs below meth c A.U A.locs A.cells A.slots → g.method = m → g.locals.size = c.maxLocals → decode c.code g.pc = .ok (ig, len) →
    2 * g.monitorRoom + (g.stack.map fun v => v.category).sum ≤ W9 → A.U.methodNamed? y = some mk → Pre A a →
    (∃ (v : Option Value) (B : Pt), Stand p l e R s m sargs below meth c B.U B.locs B.cells B.slots ∧ Post A a v B ∧
      Steps p.tables e below (doInvoke e (A.U.setTop g) [] mk a).1 (B.U.setTop { g with pc := g.pc + len, stack := v.toList ++ g.stack })) ∨
    (∃ (q : Addr) (B : Pt), Stand p l e R s m sargs below meth c B.U B.locs B.cells B.slots ∧ PostX A a q B ∧
      Steps p.tables e below (doInvoke e (A.U.setTop g) [] mk a).1 ((B.U.setTop g).pushFrame (.throwing q)))
section Payer
variable {l : Launch} {R : Room} {p : Program} {e : Env} {below : List Frame} {s : State} {sargs : Array Value} {y : MethodName} {len W9 : Nat}
theorem vx_back {ws : List Cond} {rm : Room} {Pc : Array Value → State → Prop} {Qc : Array Value → State → Outcome → State → Prop} {XC : String → State → State → Prop} {mc ms : Nat} {free : Addr → Prop} {bytes : ByteArray} {maxL : Nat} {ret : Option FieldType}
    (hM : vx_Met l y ws rm Pc Qc XC mc ms free) (hblind : FrameBlind Pc) (hrc : rm.cells = mc) (hrs : rm.slots = ms)
    (hframes : rm.frames + 1 ≤ R.frames) (hlocals : W9 + (maxL + 11) + rm.locals ≤ R.locals)
    (hws : ∀ w ∈ ws, ∀ a' U, s.WarmedH U.vm → w.before a' U = true) (hcode : Cond.code y bytes maxL ret ∈ ws) (hinit : ∀ a' U, s.WarmedH U.vm → (Cond.initialized y.cls).before a' U = true) :
    vx_Back l R p e below s sargs y len W9 (PreOf R mc ms Pc) (PostOf Qc mc ms free) (vx_Post XC mc ms free) := by
  intro m meth c A g ig mk a X hg hsize hdg hW hn hp
  have h1 : (headSpec ws rm).pre.before a A.U = true := atoms_intro fun w hw => hws w hw _ _ X.warmed
  have h2 : (Cond.code y bytes maxL ret).before a A.U = true := hws _ hcode _ _ X.warmed
  have h3 : (Cond.initialized y.cls).before a A.U = true := hinit _ _ X.warmed
  have h4 : A.cells + (headSpec ws rm).room.cells ≤ R.cells := by rw [show (headSpec ws rm).room.cells = mc from hrc]; exact hp.1
  have h5 : A.slots + (headSpec ws rm).room.slots ≤ R.slots := by rw [show (headSpec ws rm).room.slots = ms from hrs]; exact hp.2.1
  have hPc : Pc a (A.U.calling g mk a) := hblind _ _ _ _ hp.2.2
  obtain ⟨U, Ls, c0, s0⟩ := A
  dsimp only [Pt.U, Pt.locs, Pt.cells, Pt.slots] at h1 h2 h3 h4 h5 X hn hPc ⊢
  obtain ⟨methY, cY, hmY, hcY, -, hlY, -, -, -, -⟩ := Cond.code_spec hn h2
  obtain ⟨kY, hkY, -⟩ := className_of_methodNamed hn
  have hinitY : kY.init = .initialized := Cond.initialized_spec (findClass_of_methodNamed hn) hkY h3
  have h : At U g.method c below := by rw [hg]; exact X.here
  have hlocals9 : W9 + (maxL + 11) + (headSpec ws rm).room.locals ≤ R.locals := hlocals
  have happ : (headSpec ws rm).appliesLoose y e.platform (U.calling g mk a) = true :=
    Spec.appliesLoose_calling (g := g) h hdg hn hkY hinitY
      (X.room_calling (g := g) (R' := (headSpec ws rm).room) hsize hmY hcY hframes (by rw [hlY]; omega) h4 h5) h1
  obtain ⟨mid, hmid⟩ := h.above
  have hfr : (U.setTop g).frames = (.java g :: mid) ++ below := by rw [State.frames_setTop' g h.top, hmid]; rfl
  obtain ⟨o, s₂, hsteps, -, hend, hq⟩ := Steps.callFree hM p X.admits X.cas X.clock (acts := []) hfr happ hPc trivial
  have hq' : vx_Q Qc XC mc ms free a (U.calling g mk a) o s₂ := hq
  rw [State.frames_setTop' g h.top] at hend
  obtain ⟨g₀, hg0⟩ := Option.isSome_iff_exists.mp h.top
  obtain ⟨r, hr⟩ := State.topJava?_eq_some.mp hg0
  have hr' : (({ U with heap := s₂.heap, slotsUsed := s₂.slotsUsed } : State).setVm s₂.vm).frames = .java g₀ :: r := hr
  rcases hq' with ⟨hqc, L, hfe, hL⟩ | ⟨q, rfl, E, ce, L, hx, hce, hcv, hcl, hW₂, hsm, hL⟩
  · obtain ⟨⟨v, rfl⟩, hW₂, e2, q2, q3, q4, q5, q6⟩ := id hfe
    have e3 : s₂ = ({ (U.calling g mk a).setFrames s₂.frames with heap := s₂.heap, slotsUsed := s₂.slotsUsed } : State).setVm s₂.vm := by
      have : s₂ = ({ s₂ with vm := (U.calling g mk a).vm } : State).setVm s₂.vm := rfl
      rw [e2] at this
      exact this
    obtain ⟨c₂, i₂, len₂, hc₂, hd₂, hf₂⟩ := hend
    have hW' : U.WarmedH s₂.vm := hW₂
    have hcc : c₂ = c := by
      have h1 : s₂.code? g.method = U.code? g.method := by
        rw [State.code?_eq, State.code?_eq, hW'.alike.method?]
      exact Option.some.inj (hc₂.symm.trans (h1.trans h.code))
    subst hcc
    have hlen : len₂ = len := by rw [hdg] at hd₂; cases hd₂; rfl
    subst hlen
    have hs₂ : s₂ = (({ U with heap := s₂.heap, slotsUsed := s₂.slotsUsed } : State).setVm s₂.vm).setTop { g with pc := g.pc + len₂, stack := v.toList ++ g.stack } := by
      refine e3.trans ?_
      rw [hf₂, State.calling_eq h.top, State.setFrames_setFrames, State.setTop_of_frames _ hr', hr]
      rfl
    have hsame : U.sameButNew ({ U with heap := s₂.heap, slotsUsed := s₂.slotsUsed } : State) L mc ms := by
      refine ⟨?_, q2, q3, q4, q5, q6⟩
      obtain ⟨t, ht, -⟩ := State.frames_cons hr
      show ({ U with heap := s₂.heap, slotsUsed := s₂.slotsUsed } : State) = { U.setFrames U.frames with heap := s₂.heap, slotsUsed := s₂.slotsUsed }
      rw [State.setFrames_self ht]
    subst hg
    refine Or.inl ⟨v, ⟨(({ U with heap := s₂.heap, slotsUsed := s₂.slotsUsed } : State).setVm s₂.vm), Ls ++ L, c0 + mc, s0 + ms⟩,
      ⟨X.admits, X.cas, X.clock, X.frames, X.room, X.hears, X.method, X.code, (X.here.setHeapUsed s₂.heap s₂.slotsUsed).setVm hW'.alike, X.tail, State.WarmedH.trans X.warmed hW', X.limits, X.bytes, X.same.trans (hsame.setVm s.vm)⟩,
      ⟨g, mk, s₂, L, rfl, rfl, hqc, rfl, hL, rfl, rfl⟩, ?_⟩
    show Steps p.tables e below _ ((({ U with heap := s₂.heap, slotsUsed := s₂.slotsUsed } : State).setVm s₂.vm).setTop { g with pc := g.pc + len₂, stack := v.toList ++ g.stack })
    rw [← hs₂]
    exact hsteps
  · obtain ⟨e2, q2, q3, q4, q5, q6⟩ := id hsm
    have e3 : s₂ = ({ (U.calling g mk a).setFrames s₂.frames with heap := s₂.heap, slotsUsed := s₂.slotsUsed } : State).setVm s₂.vm := by
      have : s₂ = ({ s₂ with vm := (U.calling g mk a).vm } : State).setVm s₂.vm := rfl
      rw [e2] at this
      exact this
    have hf₂ : s₂.frames = .throwing q :: .java g :: U.frames.tail := hend
    have hW' : U.WarmedH s₂.vm := hW₂
    have hs₂ : s₂ = ((({ U with heap := s₂.heap, slotsUsed := s₂.slotsUsed } : State).setVm s₂.vm).setTop g).pushFrame (.throwing q) := by
      refine e3.trans ?_
      rw [hf₂, State.calling_eq h.top, State.setFrames_setFrames, State.pushFrame, State.frames_setTop _ hr', State.setTop_of_frames _ hr', State.setFrames_setFrames, hr]
      rfl
    have hsame : U.sameButNew ({ U with heap := s₂.heap, slotsUsed := s₂.slotsUsed } : State) L mc ms := by
      refine ⟨?_, q2, q3, q4, q5, q6⟩
      obtain ⟨t, ht, -⟩ := State.frames_cons hr
      show ({ U with heap := s₂.heap, slotsUsed := s₂.slotsUsed } : State) = { U.setFrames U.frames with heap := s₂.heap, slotsUsed := s₂.slotsUsed }
      rw [State.setFrames_self ht]
    subst hg
    refine Or.inr ⟨q, ⟨(({ U with heap := s₂.heap, slotsUsed := s₂.slotsUsed } : State).setVm s₂.vm), Ls ++ L, c0 + mc, s0 + ms⟩,
      ⟨X.admits, X.cas, X.clock, X.frames, X.room, X.hears, X.method, X.code, (X.here.setHeapUsed s₂.heap s₂.slotsUsed).setVm hW'.alike, X.tail, State.WarmedH.trans X.warmed hW', X.limits, X.bytes, X.same.trans (hsame.setVm s.vm)⟩,
      ⟨g, mk, s₂, L, E, ce, rfl, rfl, hx, hce, hcv, hcl, rfl, hL, rfl, rfl⟩, ?_⟩
    show Steps p.tables e below _ (((({ U with heap := s₂.heap, slotsUsed := s₂.slotsUsed } : State).setVm s₂.vm).setTop g).pushFrame (.throwing q))
    rw [← hs₂]
    exact hsteps
end Payer
section Calls
variable {p : Program} {l : Launch} {e : Env} {R : Room} {s : State} {m : MethodId} {args : Array Value} {below : List Frame} {meth : Method} {c : Code} {T : State} {locs : List Loc} {cells slots : Nat}
theorem vx_callV (X : Stand p l e R s m args below meth c T locs cells slots) (hexec : p.tables.exec = Jvm.exec) {own C : String} {index : Nat} {y : MethodName} {bytes : ByteArray} {maxL : Nat} {ret : Option FieldType}
    (hown : s.vm.findClass own = some m.cls) (hlink : (Cond.methodLink own index y).before args s = true) (hinst : (Cond.instanceMethod y).before args s = true) (hsel : (Cond.selects C y y).before args s = true)
    (hcode : (Cond.code y bytes maxL ret).before args s = true) (hy : y.cls ≠ "java/lang/invoke/MethodHandle" ∧ y.cls ≠ "java/lang/invoke/VarHandle")
    {W9 : Nat} {Pre : Pt → Array Value → Prop} {Post : Pt → Array Value → Option Value → Pt → Prop} {PostX : Pt → Array Value → Addr → Pt → Prop} (hK : vx_Back l R p e below s args y 3 W9 Pre Post PostX)
    {b : Addr} {cellB : Cell} (hcell : T.heap[b]? = some cellB) (hobj : cellB.vm.isStatics = false) (hcls : s.vm.findClass C = some cellB.cls)
    {g : JFrame} (hg : g.method = m) (hsize : g.locals.size = c.maxLocals) {argsL rest : List Value} (hlen : ∀ sig, parseMethodDescriptor y.desc = some sig → argsL.length = sig.parameters.length)
    (hstack : g.stack = argsL.reverse ++ .ref b :: rest) (hW : 2 * g.monitorRoom + (rest.map fun v => v.category).sum ≤ W9) (hdg : decode c.code g.pc = .ok (.invokevirtual index, 3))
    (hpre : ∀ vm₁, s.WarmedH vm₁ → Pre ⟨T.setVm vm₁, locs, cells, slots⟩ (Value.ref b :: argsL).toArray) :
    (∃ (v : Option Value) (vm₁ : Vm) (B : Pt), s.WarmedH vm₁ ∧ Stand p l e R s m args below meth c B.U B.locs B.cells B.slots ∧ Post ⟨T.setVm vm₁, locs, cells, slots⟩ (Value.ref b :: argsL).toArray v B ∧
      ∀ target, Steps p.tables e below (B.U.setTop { g with pc := g.pc + 3, stack := v.toList ++ rest }) target → Steps p.tables e below (T.setTop g) target) ∨
    (∃ (q : Addr) (vm₁ : Vm) (B : Pt), s.WarmedH vm₁ ∧ Stand p l e R s m args below meth c B.U B.locs B.cells B.slots ∧ PostX ⟨T.setVm vm₁, locs, cells, slots⟩ (Value.ref b :: argsL).toArray q B ∧
      Steps p.tables e below (T.setTop g) ((B.U.setTop { g with stack := rest }).pushFrame (.throwing q))) := by
  obtain ⟨mk, methM, hnamed, hmethM, hstM, habM⟩ := Cond.instanceMethod_spec hinst
  obtain ⟨methM', cM, hmethM', -, -, -, -, -, -, hsigM⟩ := Cond.code_spec hnamed hcode
  cases hmethM.symm.trans hmethM'
  obtain ⟨c2, r2, m2, q1, q2, q3, q4, kP, hkP, hkPi⟩ := Cond.selects_spec hsel
  cases hcls.symm.trans q1
  cases (State.methodFound?_of_named hnamed hy).symm.trans q2
  cases hnamed.symm.trans q3
  have hselP : selectMethod e.platform s.vm cellB.cls mk = .method mk := by rw [Launch.admits_selectMethod X.admits]; exact q4
  obtain ⟨vm₁, X₁, hstep₁⟩ := X.invokevirtual hexec hown hlink hnamed hmethM hstM hkP hkPi hy (a := b) (cell := cellB) hcell
    (fun z h => by rw [h] at hobj; cases hobj) hselP hmethM habM hkP hkPi (g := g) hg (argsL := argsL) (rest := rest) (hlen _ hsigM) hstack hdg
  rcases hK m meth c ⟨T.setVm vm₁, locs, cells, slots⟩ { g with stack := rest } (.invokevirtual index) mk (Value.ref b :: argsL).toArray X₁ hg hsize hdg hW (X₁.named hnamed) (hpre vm₁ X₁.warmed) with ⟨v, B, X', hpost, hsteps⟩ | ⟨q, B, X', hpost, hsteps⟩
  · exact Or.inl ⟨v, vm₁, B, X₁.warmed, X', hpost, fun target h => hstep₁ _ fun acts => by rw [doInvoke_state]; exact hsteps.trans h⟩
  · exact Or.inr ⟨q, vm₁, B, X₁.warmed, X', hpost, hstep₁ _ fun acts => by rw [doInvoke_state]; exact hsteps⟩
theorem vx_callS (X : Stand p l e R s m args below meth c T locs cells slots) (hexec : p.tables.exec = Jvm.exec) {own : String} {index : Nat} {y : MethodName} {bytes : ByteArray} {maxL : Nat} {ret : Option FieldType}
    (hown : s.vm.findClass own = some m.cls) (hlink : (Cond.methodLink own index y).before args s = true) (hstat : (Cond.static y).before args s = true) (hinit : (Cond.initialized y.cls).before args s = true)
    (hcode : (Cond.code y bytes maxL ret).before args s = true) (hy : y.cls ≠ "java/lang/invoke/MethodHandle" ∧ y.cls ≠ "java/lang/invoke/VarHandle")
    {W9 : Nat} {Pre : Pt → Array Value → Prop} {Post : Pt → Array Value → Option Value → Pt → Prop} {PostX : Pt → Array Value → Addr → Pt → Prop} (hK : vx_Back l R p e below s args y 3 W9 Pre Post PostX)
    {g : JFrame} (hg : g.method = m) (hsize : g.locals.size = c.maxLocals) {argsL rest : List Value} (hlen : ∀ sig, parseMethodDescriptor y.desc = some sig → argsL.length = sig.parameters.length)
    (hstack : g.stack = argsL.reverse ++ rest) (hW : 2 * g.monitorRoom + (rest.map fun v => v.category).sum ≤ W9) (hdg : decode c.code g.pc = .ok (.invokestatic index, 3))
    (hpre : ∀ vm₁, s.WarmedH vm₁ → Pre ⟨T.setVm vm₁, locs, cells, slots⟩ argsL.toArray) :
    (∃ (v : Option Value) (vm₁ : Vm) (B : Pt), s.WarmedH vm₁ ∧ Stand p l e R s m args below meth c B.U B.locs B.cells B.slots ∧ Post ⟨T.setVm vm₁, locs, cells, slots⟩ argsL.toArray v B ∧
      ∀ target, Steps p.tables e below (B.U.setTop { g with pc := g.pc + 3, stack := v.toList ++ rest }) target → Steps p.tables e below (T.setTop g) target) ∨
    (∃ (q : Addr) (vm₁ : Vm) (B : Pt), s.WarmedH vm₁ ∧ Stand p l e R s m args below meth c B.U B.locs B.cells B.slots ∧ PostX ⟨T.setVm vm₁, locs, cells, slots⟩ argsL.toArray q B ∧
      Steps p.tables e below (T.setTop g) ((B.U.setTop { g with stack := rest }).pushFrame (.throwing q))) := by
  obtain ⟨mk, hnamed⟩ := Cond.code_named hcode
  obtain ⟨methM, cM, hmethM, -, -, -, -, -, -, hsigM⟩ := Cond.code_spec hnamed hcode
  have hstatic : methM.isStatic = true := Cond.static_spec hnamed hmethM hstat
  obtain ⟨kP, hkP, -⟩ := className_of_methodNamed hnamed
  have hinitP : kP.init = .initialized := Cond.initialized_spec (findClass_of_methodNamed hnamed) hkP hinit
  obtain ⟨vm₁, X₁, hstep₁⟩ := X.invokestatic hexec hown hlink hnamed hmethM hstatic hkP hinitP hy (g := g) hg (argsL := argsL) (rest := rest) (hlen _ hsigM) hstack hdg
  rcases hK m meth c ⟨T.setVm vm₁, locs, cells, slots⟩ { g with stack := rest } (.invokestatic index) mk argsL.toArray X₁ hg hsize hdg hW (X₁.named hnamed) (hpre vm₁ X₁.warmed) with ⟨v, B, X', hpost, hsteps⟩ | ⟨q, B, X', hpost, hsteps⟩
  · exact Or.inl ⟨v, vm₁, B, X₁.warmed, X', hpost, fun target h => hstep₁ _ fun acts => by rw [doInvoke_state]; exact hsteps.trans h⟩
  · exact Or.inr ⟨q, vm₁, B, X₁.warmed, X', hpost, hstep₁ _ fun acts => by rw [doInvoke_state]; exact hsteps⟩
end Calls
theorem vx_cls {s : State} {T : State} {vm₁ : Vm} {E : String} {k : ClassId} (hW : s.WarmedH vm₁) (h : (T.setVm vm₁).vm.findClass E = some k) : s.vm.findClass E = some k := by
  have h1 : vm₁.findClass E = some k := h
  rw [hW.alike.findClass] at h1
  exact h1
/-- the method's frame g, with q thrown over it -/
def vx_W (p : Program) (l : Launch) (e : Env) (R : Room) (s : State) (m : MethodId) (args : Array Value) (below : List Frame) (meth : Method) (c : Code) (H : Heap) (locs : List Loc) (cells slots : Nat) (Q : State → Prop) (g : JFrame) (q : Addr) : Prop :=
  ∀ T : State, T.heap = H → Stand p l e R s m args below meth c T locs cells slots → ∃ t, Steps p.tables e below ((T.setTop g).pushFrame (.throwing q)) t ∧ Q t
def vx_Run (p : Program) (l : Launch) (e : Env) (R : Room) (s : State) (m : MethodId) (args : Array Value) (below : List Frame) (meth : Method) (c : Code) (H : Heap) (locs : List Loc) (cells slots mc ms : Nat) (g : JFrame) (rest : List Value) (Qa : State → Outcome → State → Prop) (XC : String → State → State → Prop) (free : Addr → Prop) : Prop :=
  ∀ T : State, T.heap = H → Stand p l e R s m args below meth c T locs cells slots →
    (∃ (v : Option Value) (st₀ t T' : State) (L : List Loc), st₀.heap = H ∧ Stand p l e R s m args below meth c T' (locs ++ L) (cells + mc) (slots + ms) ∧ (∀ q ∈ L, free q.base) ∧ T'.heap = t.heap ∧ T'.vm = t.vm ∧ Qa st₀ (.returned v) t ∧
      Goes p e below T g T' { g with pc := g.pc + 3, stack := v.toList ++ rest }) ∨
    (∃ (q : Addr) (st₀ t T' : State) (L : List Loc) (E : String) (ce : Cell), st₀.heap = H ∧ Stand p l e R s m args below meth c T' (locs ++ L) (cells + mc) (slots + ms) ∧ (∀ z ∈ L, free z.base) ∧ T'.heap = t.heap ∧ T'.vm = t.vm ∧ XC E st₀ t ∧ t.heap[q]? = some ce ∧ ce.vm = .none ∧ s.vm.findClass E = some ce.cls ∧
      Steps p.tables e below (T.setTop g) ((T'.setTop { g with stack := rest }).pushFrame (.throwing q)))
def vx_X {S : Type} (px : S → Prop) (B : String → S → State → Prop) (A : Nat → Prop) : String → State → State → Prop := fun E st t => ∃ u : S, px u ∧ B E u t ∧ va_F A st t
section Runs
variable {p : Program} {l : Launch} {e : Env} {R : Room} {s : State} {m : MethodId} {args : Array Value} {below : List Frame} {meth : Method} {c : Code} {H : Heap} {locs : List Loc} {cells slots : Nat}
variable {y : MethodName} {bytes cc : ByteArray} {maxL nL mc ms n index : Nat} {ret : Option FieldType} {ws : List Cond} {rm : Room} {Pc : Array Value → State → Prop} {Qc : Array Value → State → Outcome → State → Prop} {XC : String → State → State → Prop} {free : Addr → Prop} {Ts : List Cond} {own C : String} {b : Addr} {As rest : List Value} {g : JFrame}
theorem vx_callBack (cb : CallB R s args own index y bytes maxL ret ws rm mc ms n) (hM : vx_Met l y ws rm Pc Qc XC mc ms free) (hbl : FrameBlind Pc) : vx_Back l R p e below s args y 3 8 (PreOf R mc ms Pc) (PostOf Qc mc ms free) (vx_Post XC mc ms free) := by
  obtain ⟨hrc, hrs, hfr, hlo, hws, hcw, -, hini, -⟩ := cb
  exact vx_back (bytes := bytes) (maxL := maxL) (ret := ret) hM hbl hrc hrs hfr hlo hws hcw (fun a' U hW => word_at hW (Or.inl (by first | rfl | simp [Cond.onTables, Cond.keeps, Cond.steady])) hini)
theorem vx_runV (S : CallFix p m c cc nL s args Ts own) (hM : vx_Met l y ws rm Pc Qc XC mc ms free) (cw : CallW R s args own C index y bytes maxL ret ws rm mc ms n) (hp : PreV s H C b Pc As)
    (hg : g.method = m) (hn : As.length = n) (hsize : g.locals.size = nL) (hstack : g.stack = As.reverse ++ .ref b :: rest) (hW : 2 * g.monitorRoom + (rest.map fun v => v.category).sum ≤ 8) (hdg : decode cc g.pc = .ok (.invokevirtual index, 3)) (hf : cells + mc ≤ R.cells ∧ slots + ms ≤ R.slots) :
    vx_Run p l e R s m args below meth c H locs cells slots mc ms g rest (Qc (Value.ref b :: As).toArray) XC free := by
  have hK : vx_Back l R p e below s args y 3 8 (PreOf R mc ms Pc) (PostOf Qc mc ms free) (vx_Post XC mc ms free) := vx_callBack cw.1 hM hp.1
  obtain ⟨⟨-, -, -, -, -, -, hcode, -, hy, hlen, hl⟩, hin, hse⟩ := cw
  obtain ⟨hx, hb, hml, ho, -⟩ := S
  obtain ⟨-, ⟨cellB, hcB, hoB, hclB⟩, hPc⟩ := hp
  intro T hT X
  rcases vx_callV X hx (C := C) (bytes := bytes) (maxL := maxL) (ret := ret) ho hl hin hse hcode hy hK (by rw [hT]; exact hcB) hoB hclB hg (hsize.trans hml.symm) (argsL := As) (rest := rest) (fun sig h => hn.trans (hlen sig h)) hstack hW (by rw [hb]; exact hdg)
    (fun vm₁ hW₁ => ⟨hf.1, hf.2, hPc (T.setVm vm₁) hT hW₁⟩) with ⟨v, vm₁, ⟨U', l2, c2, s2⟩, hW₁, X', ⟨g', mk, t, L, e1, e2, hq, h1, hL, h2, h3⟩, st⟩ | ⟨q, vm₁, ⟨U', l2, c2, s2⟩, hW₁, X', ⟨g', mk, t, L, E, ce, e1, e2, hq, hce, hcv, hcl, h1, hL, h2, h3⟩, st⟩
  · dsimp only [Pt.U, Pt.locs, Pt.cells, Pt.slots] at X' e1 e2 h1 h2 h3 st
    subst h1; subst h2; subst h3
    exact Or.inl ⟨v, (T.setVm vm₁).calling g' mk (Value.ref b :: As).toArray, t, U', L, hT, X', hL, e1, e2, hq, st⟩
  · dsimp only [Pt.U, Pt.locs, Pt.cells, Pt.slots] at X' e1 e2 h1 h2 h3 st hcl
    subst h1; subst h2; subst h3
    exact Or.inr ⟨q, (T.setVm vm₁).calling g' mk (Value.ref b :: As).toArray, t, U', L, E, ce, hT, X', hL, e1, e2, hq, hce, hcv, vx_cls hW₁ hcl, st⟩
theorem vx_runS (S : CallFix p m c cc nL s args Ts own) (hM : vx_Met l y ws rm Pc Qc XC mc ms free) (cw : CallB R s args own index y bytes maxL ret ws rm mc ms n ∧ (Cond.static y).before args s = true) (hp : PreS s H Pc As)
    (hg : g.method = m) (hn : As.length = n) (hsize : g.locals.size = nL) (hstack : g.stack = As.reverse ++ rest) (hW : 2 * g.monitorRoom + (rest.map fun v => v.category).sum ≤ 8) (hdg : decode cc g.pc = .ok (.invokestatic index, 3)) (hf : cells + mc ≤ R.cells ∧ slots + ms ≤ R.slots) :
    vx_Run p l e R s m args below meth c H locs cells slots mc ms g rest (Qc As.toArray) XC free := by
  have hK : vx_Back l R p e below s args y 3 8 (PreOf R mc ms Pc) (PostOf Qc mc ms free) (vx_Post XC mc ms free) := vx_callBack cw.1 hM hp.1
  obtain ⟨⟨-, -, -, -, -, -, hcode, hini, hy, hlen, hl⟩, hstt⟩ := cw
  obtain ⟨hx, hb, hml, ho, -⟩ := S
  intro T hT X
  rcases vx_callS X hx (bytes := bytes) (maxL := maxL) (ret := ret) ho hl hstt hini hcode hy hK hg (hsize.trans hml.symm) (argsL := As) (rest := rest) (fun sig h => hn.trans (hlen sig h)) hstack hW (by rw [hb]; exact hdg)
    (fun vm₁ hW₁ => ⟨hf.1, hf.2, hp.2 (T.setVm vm₁) hT hW₁⟩) with ⟨v, vm₁, ⟨U', l2, c2, s2⟩, hW₁, X', ⟨g', mk, t, L, e1, e2, hq, h1, hL, h2, h3⟩, st⟩ | ⟨q, vm₁, ⟨U', l2, c2, s2⟩, hW₁, X', ⟨g', mk, t, L, E, ce, e1, e2, hq, hce, hcv, hcl, h1, hL, h2, h3⟩, st⟩
  · dsimp only [Pt.U, Pt.locs, Pt.cells, Pt.slots] at X' e1 e2 h1 h2 h3 st
    subst h1; subst h2; subst h3
    exact Or.inl ⟨v, (T.setVm vm₁).calling g' mk As.toArray, t, U', L, hT, X', hL, e1, e2, hq, st⟩
  · dsimp only [Pt.U, Pt.locs, Pt.cells, Pt.slots] at X' e1 e2 h1 h2 h3 st hcl
    subst h1; subst h2; subst h3
    exact Or.inr ⟨q, (T.setVm vm₁).calling g' mk As.toArray, t, U', L, E, ce, hT, X', hL, e1, e2, hq, hce, hcv, vx_cls hW₁ hcl, st⟩
end Runs
section Rows
variable {p : Program} {l : Launch} {e : Env} {R : Room} {s : State} {m : MethodId} {args : Array Value} {below : List Frame} {meth : Method} {c : Code} {H : Heap} {locs : List Loc} {cells slots : Nat} {Q : State → Prop}
variable {mc ms : Nat} {free : Addr → Prop} {A0 A1 : Nat → Prop} {H0 : Heap} {a : Array Value} {pc : Nat} {ls : Array Slot} {st0 rest : List Value}
theorem vx_keep {st₀ t T' : State} {L : List Loc} (h0 : st₀.heap = H) (e1 : T'.heap = t.heap) (hS : va_S A0 H0 H locs) (hA : ∀ q, q < H.size → A1 q → A0 q) (hf : ∀ q, free q → A0 q) (hL : ∀ q ∈ L, free q.base) (hF : va_F A1 st₀ t) :
    H.size ≤ T'.heap.size ∧ (∀ q : Nat, q < H.size → ¬ A1 q → T'.heap[q]? = H[q]?) ∧ va_S A0 H0 T'.heap (locs ++ L) := by
  obtain ⟨hz, hk⟩ := hF
  rw [h0] at hz hk
  exact ⟨by rw [e1]; exact hz, fun q h1 h2 => by rw [e1]; exact hk q h1 h2,
    ⟨Nat.le_trans hS.1 (by rw [e1]; exact hz), fun q h1 h2 => by rw [e1, hk q (Nat.lt_of_lt_of_le h1 hS.1) (fun z => h2 (hA q (Nat.lt_of_lt_of_le h1 hS.1) z))]; exact hS.2.1 q h1 h2, fun q hq => by
      rcases List.mem_append.mp hq with h | h
      · exact hS.2.2 q h
      · exact hf _ (hL q h)⟩⟩
theorem vx_calli {S SX : Type} {post : Int32 → S → Prop} {px : SX → Prop} {B : S → State → Prop} {BX : String → SX → State → Prop} {AX : Nat → Prop} (hr : vx_Run p l e R s m args below meth c H locs cells slots mc ms (F0 m pc ls st0) rest (va_Qi post B A1 a) (vx_X px BX AX) free) (hS : va_S A0 H0 H locs) (hA : ∀ q, q < H.size → A1 q → A0 q) (hf : ∀ q, free q → A0 q) (hAX : ∀ q, q < H.size → AX q → A0 q)
    (kx : ∀ (E : String) (ce : Cell) (q9 : Addr) (u : SX) (t : State) (H1 : Heap) (locs1 : List Loc), t.heap = H1 → s.vm.Alike t.vm → px u → BX E u t → H.size ≤ H1.size → (∀ q : Nat, q < H.size → ¬ AX q → H1[q]? = H[q]?) → va_S A0 H0 H1 locs1 → H1[q9]? = some ce → ce.vm = .none → s.vm.findClass E = some ce.cls → vx_W p l e R s m args below meth c H1 locs1 (cells + mc) (slots + ms) Q (F0 m pc ls rest) q9)
    (kk : ∀ (r : Int32) (u : S) (t : State) (H1 : Heap) (locs1 : List Loc), t.heap = H1 → s.vm.Alike t.vm → post r u → B u t → H.size ≤ H1.size → (∀ q : Nat, q < H.size → ¬ A1 q → H1[q]? = H[q]?) → va_S A0 H0 H1 locs1 → W p l e R s m args below meth c H1 locs1 (cells + mc) (slots + ms) Q (F0 m (pc + 3) ls (.int r :: rest))) : W p l e R s m args below meth c H locs cells slots Q (F0 m pc ls st0) := by
  intro T hT X
  rcases hr T hT X with ⟨v, st₀, t, T', L, h0, X', hL, e1, e2, ⟨⟨r, u, hv, hp, hb⟩, hF⟩, st⟩ | ⟨q, st₀, t, T', L, E, ce, h0, X', hL, e1, e2, ⟨u, hp, hb, hF⟩, hce, hcv, hcl, st⟩
  · cases hv
    obtain ⟨k1, k2, k3⟩ := vx_keep h0 e1 hS hA hf hL hF
    obtain ⟨t2, a1, b1⟩ := kk r u t T'.heap (locs ++ L) e1.symm (by rw [← e2]; exact X'.warmed.alike) hp hb k1 k2 k3 T' rfl X'
    exact ⟨t2, st t2 a1, b1⟩
  · obtain ⟨k1, k2, k3⟩ := vx_keep h0 e1 hS hAX hf hL hF
    obtain ⟨t2, a1, b1⟩ := kx E ce q u t T'.heap (locs ++ L) e1.symm (by rw [← e2]; exact X'.warmed.alike) hp hb k1 k2 k3 (by rw [e1]; exact hce) hcv hcl T' rfl X'
    exact ⟨t2, st.trans a1, b1⟩
theorem vx_calll {S SX : Type} {post : Int64 → S → Prop} {px : SX → Prop} {B : S → State → Prop} {BX : String → SX → State → Prop} {AX : Nat → Prop} (hr : vx_Run p l e R s m args below meth c H locs cells slots mc ms (F0 m pc ls st0) rest (va_Ql post B A1 a) (vx_X px BX AX) free) (hS : va_S A0 H0 H locs) (hA : ∀ q, q < H.size → A1 q → A0 q) (hf : ∀ q, free q → A0 q) (hAX : ∀ q, q < H.size → AX q → A0 q)
    (kx : ∀ (E : String) (ce : Cell) (q9 : Addr) (u : SX) (t : State) (H1 : Heap) (locs1 : List Loc), t.heap = H1 → s.vm.Alike t.vm → px u → BX E u t → H.size ≤ H1.size → (∀ q : Nat, q < H.size → ¬ AX q → H1[q]? = H[q]?) → va_S A0 H0 H1 locs1 → H1[q9]? = some ce → ce.vm = .none → s.vm.findClass E = some ce.cls → vx_W p l e R s m args below meth c H1 locs1 (cells + mc) (slots + ms) Q (F0 m pc ls rest) q9)
    (kk : ∀ (r : Int64) (u : S) (t : State) (H1 : Heap) (locs1 : List Loc), t.heap = H1 → s.vm.Alike t.vm → post r u → B u t → H.size ≤ H1.size → (∀ q : Nat, q < H.size → ¬ A1 q → H1[q]? = H[q]?) → va_S A0 H0 H1 locs1 → W p l e R s m args below meth c H1 locs1 (cells + mc) (slots + ms) Q (F0 m (pc + 3) ls (.long r :: rest))) : W p l e R s m args below meth c H locs cells slots Q (F0 m pc ls st0) := by
  intro T hT X
  rcases hr T hT X with ⟨v, st₀, t, T', L, h0, X', hL, e1, e2, ⟨⟨r, u, hv, hp, hb⟩, hF⟩, st⟩ | ⟨q, st₀, t, T', L, E, ce, h0, X', hL, e1, e2, ⟨u, hp, hb, hF⟩, hce, hcv, hcl, st⟩
  · cases hv
    obtain ⟨k1, k2, k3⟩ := vx_keep h0 e1 hS hA hf hL hF
    obtain ⟨t2, a1, b1⟩ := kk r u t T'.heap (locs ++ L) e1.symm (by rw [← e2]; exact X'.warmed.alike) hp hb k1 k2 k3 T' rfl X'
    exact ⟨t2, st t2 a1, b1⟩
  · obtain ⟨k1, k2, k3⟩ := vx_keep h0 e1 hS hAX hf hL hF
    obtain ⟨t2, a1, b1⟩ := kx E ce q u t T'.heap (locs ++ L) e1.symm (by rw [← e2]; exact X'.warmed.alike) hp hb k1 k2 k3 (by rw [e1]; exact hce) hcv hcl T' rfl X'
    exact ⟨t2, st.trans a1, b1⟩
theorem vx_callf {S SX : Type} {post : UInt32 → S → Prop} {px : SX → Prop} {B : S → State → Prop} {BX : String → SX → State → Prop} {AX : Nat → Prop} (hr : vx_Run p l e R s m args below meth c H locs cells slots mc ms (F0 m pc ls st0) rest (va_Qf post B A1 a) (vx_X px BX AX) free) (hS : va_S A0 H0 H locs) (hA : ∀ q, q < H.size → A1 q → A0 q) (hf : ∀ q, free q → A0 q) (hAX : ∀ q, q < H.size → AX q → A0 q)
    (kx : ∀ (E : String) (ce : Cell) (q9 : Addr) (u : SX) (t : State) (H1 : Heap) (locs1 : List Loc), t.heap = H1 → s.vm.Alike t.vm → px u → BX E u t → H.size ≤ H1.size → (∀ q : Nat, q < H.size → ¬ AX q → H1[q]? = H[q]?) → va_S A0 H0 H1 locs1 → H1[q9]? = some ce → ce.vm = .none → s.vm.findClass E = some ce.cls → vx_W p l e R s m args below meth c H1 locs1 (cells + mc) (slots + ms) Q (F0 m pc ls rest) q9)
    (kk : ∀ (r : UInt32) (u : S) (t : State) (H1 : Heap) (locs1 : List Loc), t.heap = H1 → s.vm.Alike t.vm → post r u → B u t → H.size ≤ H1.size → (∀ q : Nat, q < H.size → ¬ A1 q → H1[q]? = H[q]?) → va_S A0 H0 H1 locs1 → W p l e R s m args below meth c H1 locs1 (cells + mc) (slots + ms) Q (F0 m (pc + 3) ls (.float r :: rest))) : W p l e R s m args below meth c H locs cells slots Q (F0 m pc ls st0) := by
  intro T hT X
  rcases hr T hT X with ⟨v, st₀, t, T', L, h0, X', hL, e1, e2, ⟨⟨r, u, hv, hp, hb⟩, hF⟩, st⟩ | ⟨q, st₀, t, T', L, E, ce, h0, X', hL, e1, e2, ⟨u, hp, hb, hF⟩, hce, hcv, hcl, st⟩
  · cases hv
    obtain ⟨k1, k2, k3⟩ := vx_keep h0 e1 hS hA hf hL hF
    obtain ⟨t2, a1, b1⟩ := kk r u t T'.heap (locs ++ L) e1.symm (by rw [← e2]; exact X'.warmed.alike) hp hb k1 k2 k3 T' rfl X'
    exact ⟨t2, st t2 a1, b1⟩
  · obtain ⟨k1, k2, k3⟩ := vx_keep h0 e1 hS hAX hf hL hF
    obtain ⟨t2, a1, b1⟩ := kx E ce q u t T'.heap (locs ++ L) e1.symm (by rw [← e2]; exact X'.warmed.alike) hp hb k1 k2 k3 (by rw [e1]; exact hce) hcv hcl T' rfl X'
    exact ⟨t2, st.trans a1, b1⟩
theorem vx_calld {S SX : Type} {post : UInt64 → S → Prop} {px : SX → Prop} {B : S → State → Prop} {BX : String → SX → State → Prop} {AX : Nat → Prop} (hr : vx_Run p l e R s m args below meth c H locs cells slots mc ms (F0 m pc ls st0) rest (va_Qd post B A1 a) (vx_X px BX AX) free) (hS : va_S A0 H0 H locs) (hA : ∀ q, q < H.size → A1 q → A0 q) (hf : ∀ q, free q → A0 q) (hAX : ∀ q, q < H.size → AX q → A0 q)
    (kx : ∀ (E : String) (ce : Cell) (q9 : Addr) (u : SX) (t : State) (H1 : Heap) (locs1 : List Loc), t.heap = H1 → s.vm.Alike t.vm → px u → BX E u t → H.size ≤ H1.size → (∀ q : Nat, q < H.size → ¬ AX q → H1[q]? = H[q]?) → va_S A0 H0 H1 locs1 → H1[q9]? = some ce → ce.vm = .none → s.vm.findClass E = some ce.cls → vx_W p l e R s m args below meth c H1 locs1 (cells + mc) (slots + ms) Q (F0 m pc ls rest) q9)
    (kk : ∀ (r : UInt64) (u : S) (t : State) (H1 : Heap) (locs1 : List Loc), t.heap = H1 → s.vm.Alike t.vm → post r u → B u t → H.size ≤ H1.size → (∀ q : Nat, q < H.size → ¬ A1 q → H1[q]? = H[q]?) → va_S A0 H0 H1 locs1 → W p l e R s m args below meth c H1 locs1 (cells + mc) (slots + ms) Q (F0 m (pc + 3) ls (.double r :: rest))) : W p l e R s m args below meth c H locs cells slots Q (F0 m pc ls st0) := by
  intro T hT X
  rcases hr T hT X with ⟨v, st₀, t, T', L, h0, X', hL, e1, e2, ⟨⟨r, u, hv, hp, hb⟩, hF⟩, st⟩ | ⟨q, st₀, t, T', L, E, ce, h0, X', hL, e1, e2, ⟨u, hp, hb, hF⟩, hce, hcv, hcl, st⟩
  · cases hv
    obtain ⟨k1, k2, k3⟩ := vx_keep h0 e1 hS hA hf hL hF
    obtain ⟨t2, a1, b1⟩ := kk r u t T'.heap (locs ++ L) e1.symm (by rw [← e2]; exact X'.warmed.alike) hp hb k1 k2 k3 T' rfl X'
    exact ⟨t2, st t2 a1, b1⟩
  · obtain ⟨k1, k2, k3⟩ := vx_keep h0 e1 hS hAX hf hL hF
    obtain ⟨t2, a1, b1⟩ := kx E ce q u t T'.heap (locs ++ L) e1.symm (by rw [← e2]; exact X'.warmed.alike) hp hb k1 k2 k3 (by rw [e1]; exact hce) hcv hcl T' rfl X'
    exact ⟨t2, st.trans a1, b1⟩
theorem vx_callv {S SX : Type} {post : S → Prop} {px : SX → Prop} {B : S → State → Prop} {BX : String → SX → State → Prop} {AX : Nat → Prop} (hr : vx_Run p l e R s m args below meth c H locs cells slots mc ms (F0 m pc ls st0) rest (va_Qv post B A1 a) (vx_X px BX AX) free) (hS : va_S A0 H0 H locs) (hA : ∀ q, q < H.size → A1 q → A0 q) (hf : ∀ q, free q → A0 q) (hAX : ∀ q, q < H.size → AX q → A0 q)
    (kx : ∀ (E : String) (ce : Cell) (q9 : Addr) (u : SX) (t : State) (H1 : Heap) (locs1 : List Loc), t.heap = H1 → s.vm.Alike t.vm → px u → BX E u t → H.size ≤ H1.size → (∀ q : Nat, q < H.size → ¬ AX q → H1[q]? = H[q]?) → va_S A0 H0 H1 locs1 → H1[q9]? = some ce → ce.vm = .none → s.vm.findClass E = some ce.cls → vx_W p l e R s m args below meth c H1 locs1 (cells + mc) (slots + ms) Q (F0 m pc ls rest) q9)
    (kk : ∀ (u : S) (t : State) (H1 : Heap) (locs1 : List Loc), t.heap = H1 → s.vm.Alike t.vm → post u → B u t → H.size ≤ H1.size → (∀ q : Nat, q < H.size → ¬ A1 q → H1[q]? = H[q]?) → va_S A0 H0 H1 locs1 → W p l e R s m args below meth c H1 locs1 (cells + mc) (slots + ms) Q (F0 m (pc + 3) ls (rest))) : W p l e R s m args below meth c H locs cells slots Q (F0 m pc ls st0) := by
  intro T hT X
  rcases hr T hT X with ⟨v, st₀, t, T', L, h0, X', hL, e1, e2, ⟨⟨u, hv, hp, hb⟩, hF⟩, st⟩ | ⟨q, st₀, t, T', L, E, ce, h0, X', hL, e1, e2, ⟨u, hp, hb, hF⟩, hce, hcv, hcl, st⟩
  · cases hv
    obtain ⟨k1, k2, k3⟩ := vx_keep h0 e1 hS hA hf hL hF
    obtain ⟨t2, a1, b1⟩ := kk u t T'.heap (locs ++ L) e1.symm (by rw [← e2]; exact X'.warmed.alike) hp hb k1 k2 k3 T' rfl X'
    exact ⟨t2, st t2 a1, b1⟩
  · obtain ⟨k1, k2, k3⟩ := vx_keep h0 e1 hS hAX hf hL hF
    obtain ⟨t2, a1, b1⟩ := kx E ce q u t T'.heap (locs ++ L) e1.symm (by rw [← e2]; exact X'.warmed.alike) hp hb k1 k2 k3 (by rw [e1]; exact hce) hcv hcl T' rfl X'
    exact ⟨t2, st.trans a1, b1⟩
/-- caught by the row x of this method's table; the rows ahead don't take it -/
theorem vx_catch {own name : String} {E : String} {ce : Cell} {q : Addr} (hown : s.vm.findClass own = some m.cls) (pre : List ExceptionTableEntry) (x : ExceptionTableEntry) (suf : List ExceptionTableEntry) (hsplit : c.exceptionTable.toList = pre ++ x :: suf)
    (hpass : ∀ z ∈ pre, covers z pc = false ∨ (z.catchType ≠ 0 ∧ ∃ nm : String, (Cond.classLink own z.catchType nm).before args s = true ∧ va_Nc E nm s)) (hx : covers x pc = true) (h0 : x.catchType ≠ 0)
    (hlink : (Cond.classLink own x.catchType name).before args s = true) (hcast : (Cond.castable E name).before args s = true) (hcell : H[q]? = some ce) (hv : ce.vm = .none) (hcl : s.vm.findClass E = some ce.cls)
    (kk : W p l e R s m args below meth c H locs cells slots Q (F0 m x.handlerPc ls [.ref q])) : vx_W p l e R s m args below meth c H locs cells slots Q (F0 m pc ls rest) q := by
  intro T hT X
  have hpl : e.platform.magicAccessors = ({} : Platform).magicAccessors := by rw [X.admits.platform]
  obtain ⟨c3, c4, hc3, hc4, hasg⟩ := Cond.castable_spec hcast
  cases Option.some.inj (hc3.symm.trans hcl)
  obtain ⟨c5, hc5, hcl5⟩ := Cond.classLink_spec hown hlink e.platform hpl
  cases Option.some.inj (hc4.symm.trans hc5)
  obtain ⟨vm', X', st⟩ := X.thenCaughtThrough q (g := F0 m pc ls rest) rfl (Steps.refl _) (by rw [hT]; exact hcell) (by rw [hv]; rfl) (by obtain ⟨k9, h9, -⟩ := Vm.findClass_spec hcl; exact ⟨k9, h9⟩) pre x suf hsplit
    (fun z hz => by
      rcases hpass z hz with h | ⟨hz0, nm, hl1, hn1⟩
      · exact Or.inl h
      · obtain ⟨c6, hc6, hcl6⟩ := Cond.classLink_spec hown hl1 e.platform hpl
        obtain ⟨a8, b8, h1, h2, h3⟩ := hn1
        cases Option.some.inj (h1.symm.trans hcl)
        cases Option.some.inj (h2.symm.trans hc6)
        exact Or.inr ⟨hz0, _, hcl6, h3⟩) hx (Or.inr ⟨h0, c4, hcl5, hasg⟩)
  obtain ⟨t, a1, b1⟩ := kk (T.setVm vm') hT X'
  exact ⟨t, st.trans a1, b1⟩
end Rows
section Ends
variable {p : Program} {l : Launch} {e : Env} {R : Room} {s : State} {m : MethodId} {args : Array Value} {below : List Frame} {meth : Method} {c : Code} {H : Heap} {locs : List Loc} {cells slots : Nat} {Q : State → Prop}
variable {mc ms : Nat} {free : Addr → Prop} {A0 A1 : Nat → Prop} {H0 : Heap} {a : Array Value} {ls : Array Slot} {st0 rest : List Value}
variable {Qc : Array Value → State → Outcome → State → Prop} {XC : String → State → State → Prop}
/-- what a body that may throw owes at its end -/
def vx_MQ (below : List Frame) (Qc : Array Value → State → Outcome → State → Prop) (XC : String → State → State → Prop) (a : Array Value) (s : State) (mc ms : Nat) (free : Addr → Prop) : State → Prop := fun t =>
  ∃ o, t.status = .running ∧ Ended t below o ∧ vx_Q Qc XC mc ms free a s o t
theorem vx_ret {g : JFrame} {mc ms : Nat} (k : W p l e R s m args below meth c H locs cells slots (MQ below Qc args s mc ms free) g) : W p l e R s m args below meth c H locs cells slots (vx_MQ below Qc XC args s mc ms free) g := by
  intro T hT X
  obtain ⟨t, a1, o, b1, b2, b3, b4⟩ := k T hT X
  exact ⟨t, a1, o, b1, b2, Or.inl ⟨b3, b4⟩⟩
/-- not caught here: it goes on to the caller -/
theorem vx_widen {g : JFrame} {q : Addr} {k n : Nat} (h1 : cells ≤ k) (h2 : slots ≤ n) (kk : vx_W p l e R s m args below meth c H locs k n Q g q) : vx_W p l e R s m args below meth c H locs cells slots Q g q := fun T hT X => kk T hT (stand_widen X h1 h2)
theorem vx_out {pc : Nat} {E : String} {ce : Cell} {q : Addr} {mc ms : Nat} (hout : ∀ x ∈ c.exceptionTable.toList, covers x pc = false) (hlocks : meth.locks = false) (hcell : H[q]? = some ce) (hv : ce.vm = .none) (hcl : s.vm.findClass E = some ce.cls)
    (hx : ∀ t : State, t.heap = H → s.vm.Alike t.vm → XC E s t) (hf : ∀ z ∈ locs, free z.base) (hc : cells ≤ mc) (hs : slots ≤ ms) :
    vx_W p l e R s m args below meth c H locs cells slots (vx_MQ below Qc XC args s mc ms free) (F0 m pc ls rest) q := by
  intro T hT X
  obtain ⟨st1, hrun, hend, hW, hsm⟩ := X.leaveThrown q (g := F0 m pc ls rest) rfl rfl rfl hout hlocks
  have hcell9 : (T.setFrames (.throwing q :: below)).heap[q]? = some ce := by
    show T.heap[q]? = some ce
    rw [hT]; exact hcell
  exact ⟨_, st1, .threw q, hrun, hend, Or.inr ⟨q, rfl, E, ce, locs, hx _ hT hW.alike, hcell9, hv, hcl, hW, hsm.mono hc hs, hf⟩⟩
theorem vx_frame {U : State} {k n : Nat} (h : s.sameButNew ({ U with vm := s.vm } : State) locs k n) : s.heap.size ≤ U.heap.size ∧ ∀ q : Nat, q < s.heap.size → (∀ z ∈ locs, z.base ≠ q) → U.heap[q]? = s.heap[q]? := by
  obtain ⟨-, h2, -, -, -, h6⟩ := h
  refine ⟨h2, fun q hq hz => ?_⟩
  obtain ⟨c9, e1, e2, e3, e4⟩ := h6 q _ (Array.getElem?_eq_getElem hq)
  have hs : c9.slots = (s.heap[q]).slots := Array.ext_getElem? fun i => e4 i fun hm => hz _ hm rfl
  have h9 : c9 = s.heap[q] := by
    rw [hs] at e2
    exact e2
  have e5 : U.heap[q]? = some c9 := e1
  rw [e5, h9, Array.getElem?_eq_getElem hq]
/-- the words of a throw but the four that speak of the heap -/
def vx_no (w : Cond) : Bool := decide (w ≠ .isRef (.static Bundle.tN "UNASSIGNED_STACK" Bundle.steD)) && decide (w ≠ .isRef (.static Bundle.tN "SUPPRESSED_SENTINEL" Bundle.listD)) && decide (w ≠ .laysStatic Bundle.tN "UNASSIGNED_STACK" Bundle.steD) && decide (w ≠ .laysStatic Bundle.tN "SUPPRESSED_SENTINEL" Bundle.listD)
def vx_at0 (own : String) (ic : Nat) (X : String) (names : List String) : List Cond := (Bundle.ownAtoms0 own ic X names).filter vx_no
def vx_atS (own : String) (ic : Nat) (X : String) (names : List String) : List Cond := (Bundle.ownAtoms own ic X names).filter vx_no
/-- a word that the tables alone decide, or a good one -/
def vx_ot (w : Cond) : Bool := w.onTables || goodWord w
theorem vx_ot_at {args a' : Array Value} {s U : State} {w : Cond} (hW : s.WarmedH U.vm) (hvm : s.vm = U.vm) (hg : vx_ot w = true) (h : w.before args s = true) : w.before a' U = true := by
  simp only [vx_ot, Bool.or_eq_true] at hg
  rcases hg with hg | hg
  · exact va_tabs hg hvm h
  · exact word_at hW (good_of_word hg) h
/-- a list's words: the good ones out of the method's own list, the others by premises of their own -/
theorem vx_hat {args : Array Value} {s : State} {L B : List Cond} (h1 : ∀ w ∈ L.filter goodWord, w.before args s = true) (h2 : ∀ w ∈ L.filter (fun w => !goodWord w), w ∈ B) (h3 : ∀ w ∈ B, w.before args s = true) : ∀ w ∈ L, w.before args s = true := by
  intro w hw
  by_cases g : goodWord w = true
  · exact h1 w (List.mem_filter.mpr ⟨hw, g⟩)
  · refine h3 w (h2 w (List.mem_filter.mpr ⟨hw, ?_⟩))
    show (!goodWord w) = true
    cases hgw : goodWord w
    · rfl
    · exact absurd hgw g
theorem vx_c {args : Array Value} {s : State} {w : Cond} {B : List Cond} (h : w.before args s = true) (t : ∀ w ∈ B, w.before args s = true) : ∀ w' ∈ w :: B, w'.before args s = true := fun w' h' => (List.mem_cons.mp h').elim (fun e => by rw [e]; exact h) (t w')
theorem vx_n {args : Array Value} {s : State} : ∀ w ∈ ([] : List Cond), w.before args s = true := fun _ h => nomatch h
theorem vx_own {args : Array Value} {s : State} {L : List Cond} (h1 : ∀ w ∈ L.filter vx_no, w.before args s = true)
    (hU : (Cond.isRef (.static Bundle.tN "UNASSIGNED_STACK" Bundle.steD)).before args s = true) (hN : (Cond.isRef (.static Bundle.tN "SUPPRESSED_SENTINEL" Bundle.listD)).before args s = true)
    (lU : (Cond.laysStatic Bundle.tN "UNASSIGNED_STACK" Bundle.steD).before args s = true) (lN : (Cond.laysStatic Bundle.tN "SUPPRESSED_SENTINEL" Bundle.listD).before args s = true) : ∀ w ∈ L, w.before args s = true := by
  intro w hw
  by_cases e1 : w = .isRef (.static Bundle.tN "UNASSIGNED_STACK" Bundle.steD)
  · rw [e1]; exact hU
  · by_cases e2 : w = .isRef (.static Bundle.tN "SUPPRESSED_SENTINEL" Bundle.listD)
    · rw [e2]; exact hN
    · by_cases e3 : w = .laysStatic Bundle.tN "UNASSIGNED_STACK" Bundle.steD
      · rw [e3]; exact lU
      · by_cases e4 : w = .laysStatic Bundle.tN "SUPPRESSED_SENTINEL" Bundle.listD
        · rw [e4]; exact lN
        · exact h1 w (List.mem_filter.mpr ⟨hw, by unfold vx_no; rw [decide_eq_true e1, decide_eq_true e2, decide_eq_true e3, decide_eq_true e4]; rfl⟩)
/-- where a static field lies, its class's statics cell in H -/
def vx_L (C n d : String) (A : Nat → Prop) (U : State) (H : Heap) : Prop := ∃ (c : ClassId) (k : Class) (i : Nat) (f : Field) (a : Nat) (cell : Cell), U.vm.findClass C = some c ∧ U.fieldFound? C n d = some (c, k, i, f) ∧ f.isStatic = true ∧ k.statics = some a ∧ H[a]? = some cell ∧ cell.vm.isStatics = true ∧ cell.cls = c ∧ f.slot < cell.slots.size ∧ k.staticTypes[f.slot]? = some f.type ∧ ¬ A a
theorem vx_L.moved {C n d : String} {A : Nat → Prop} {u U : State} {H : Heap} (hvm : u.vm.Alike U.vm) (h : vx_L C n d A u H) : vx_L C n d A U H := by
  obtain ⟨c, k, i, f, a, cell, h1, h2, h3, h4, h5, h6, h7, h8, h9, h10⟩ := h
  obtain ⟨k', hi', he⟩ := State.fieldFound?_setVm hvm h2
  exact ⟨c, k', i, f, a, cell, by rw [hvm.findClass]; exact h1, hi', h3, by rw [he]; exact h4, h5, h6, h7, h8, by rw [he]; exact h9, h10⟩
theorem vx_L.kept {C n d : String} {A : Nat → Prop} {U : State} {H H1 : Heap} (h : vx_L C n d A U H) (hq : ∀ a : Nat, a < H.size → ¬ A a → H1[a]? = H[a]?) : vx_L C n d A U H1 := by
  obtain ⟨c, k, i, f, a, cell, h1, h2, h3, h4, h5, h6, h7, h8, h9, h10⟩ := h
  exact ⟨c, k, i, f, a, cell, h1, h2, h3, h4, by rw [hq a (Array.getElem?_eq_some_iff.mp h5).1 h10]; exact h5, h6, h7, h8, h9, h10⟩
theorem vx_L.narrow {C n d : String} {A B : Nat → Prop} {U : State} {H : Heap} (h : vx_L C n d A U H) (hAB : ∀ q, B q → A q) : vx_L C n d B U H := by
  obtain ⟨c, k, i, f, a, cell, h1, h2, h3, h4, h5, h6, h7, h8, h9, h10⟩ := h
  exact ⟨c, k, i, f, a, cell, h1, h2, h3, h4, h5, h6, h7, h8, h9, fun z => h10 (hAB _ z)⟩
theorem vx_L.word {C n d : String} {A : Nat → Prop} {s : State} {args : Array Value} (h : vx_L C n d A s s.heap) : (Cond.laysStatic C n d).before args s = true := by
  obtain ⟨c, k, i, f, a, cell, h1, h2, h3, h4, h5, h6, h7, h8, h9, -⟩ := h
  show (Cond.laysStatic C n d).holds args s none s [] = true
  exact Cond.laysStatic_of h1 h2 h3 h4 h5 h6 h7 h8 h9
/-- .. and what it holds: null or some reference -/
def vx_Zq (C n d : String) (A : Nat → Prop) (U : State) (H : Heap) : Prop := va_Zq C n d A U H ∧ vx_L C n d A U H
theorem vx_Zq.moved {C n d : String} {A : Nat → Prop} {u U : State} {H : Heap} (hvm : u.vm.Alike U.vm) (h : vx_Zq C n d A u H) : vx_Zq C n d A U H := ⟨va_Zq.moved hvm h.1, vx_L.moved hvm h.2⟩
theorem vx_Zq.kept {C n d : String} {A : Nat → Prop} {U : State} {H H1 : Heap} (h : vx_Zq C n d A U H) (hq : ∀ a : Nat, a < H.size → ¬ A a → H1[a]? = H[a]?) : vx_Zq C n d A U H1 := ⟨va_Zq.kept h.1 hq, vx_L.kept h.2 hq⟩
theorem vx_Zq.narrow {C n d : String} {A B : Nat → Prop} {U : State} {H : Heap} (h : vx_Zq C n d A U H) (hAB : ∀ q, B q → A q) : vx_Zq C n d B U H := ⟨va_Zq.narrow h.1 hAB, vx_L.narrow h.2 hAB⟩
theorem vx_Zqof {args : Array Value} {s : State} {C n d : String} {A : Nat → Prop} (hl : (Cond.laysStatic C n d).before args s = true) (hini : (Cond.initialized C).before args s = true) (h : (Cond.isRef (.static C n d)).before args s = true) (hA : ∀ a : Nat, a < s.heap.size → ¬ A a) : vx_Zq C n d A s s.heap := by
  refine ⟨va_Zqof hl hini h hA, ?_⟩
  obtain ⟨c, k, i, f, a, cell, h1, h2, h3, h4, h5, h6, h7, h8, h9⟩ := Cond.laysStatic_spec hl
  exact ⟨c, k, i, f, a, cell, h1, h2, h3, h4, h5, h6, h7, h8, h9, hA a (Array.getElem?_eq_some_iff.mp h5).1⟩
theorem vx_isRef {C n d : String} {v : Value} {A : Nat → Prop} {s : State} {args : Array Value} (h : va_Z C n d v A s s.heap) (hv : v.isRef = true) : (Cond.isRef (.static C n d)).before args s = true := by
  obtain ⟨cf, kf, fi, f, a, cell, h1, h2, h3, h4, h5, h6, h7, -⟩ := h
  have he : (Term.static C n d).eval args s none [] s = some v := by
    simp [Term.eval, State.fieldNamed?, h1, h2, h4, h5, h6, h7]
  simp only [Cond.before, Cond.holds, Cond.value, he]
  cases v <;> simp_all [Value.isRef]
theorem vx_isRefq {C n d : String} {A : Nat → Prop} {s : State} {args : Array Value} (h : va_Zq C n d A s s.heap) : (Cond.isRef (.static C n d)).before args s = true := by
  rcases h with h | ⟨t, h⟩
  · exact vx_isRef h rfl
  · exact vx_isRef h rfl
/-- the same frame, seen from here: as if the method were called anew in this heap -/
theorem vx_rebase {T : State} (X : Stand p l e R s m args below meth c T locs cells slots) {R' : Room} (hf : R'.frames ≤ R.frames) (hl : R'.locals ≤ R.locals) (hc : cells + R'.cells ≤ R.cells) (hs : slots + R'.slots ≤ R.slots) :
    Stand p l e R' ((T.setVm s.vm).setFrames (.invoking m args :: below)) m args below meth c T [] 0 0 := by
  have htop : (T.setVm s.vm).topJava?.isSome := X.here.top
  have hF : ((T.setVm s.vm).setFrames (.invoking m args :: below)).frames = .invoking m args :: below := State.frames_setFrames _ (State.cur_lt_of_top htop)
  obtain ⟨g₀, hg0⟩ := Option.isSome_iff_exists.mp htop
  obtain ⟨r, hr⟩ := State.topJava?_eq_some.mp hg0
  have hl9 : e.platform.stackLimits (T.setVm s.vm).me = e.platform.stackLimits s.me := X.limits
  have hb9 : (T.setVm s.vm).me.stackBytes = s.me.stackBytes := X.bytes
  refine ⟨X.admits, X.cas, X.clock, hF, ?_, X.hears, X.method, X.code, X.here, X.tail, X.warmed, ?_, ?_, ?_⟩
  · have h := X.room
    have hU : ((T.setVm s.vm).setFrames (.invoking m args :: below)).localsInUse = s.localsInUse := by
      rw [State.localsInUse_invoking hF (meth := meth) (c := c) X.method X.code, State.localsInUse_invoking X.frames X.method X.code]
    simp only [State.hasRoom, Bool.and_eq_true, decide_eq_true_eq] at h ⊢
    obtain ⟨⟨⟨⟨h1, h2, h3, h4, h5, h6⟩, h7⟩, h8⟩, h9⟩ := h
    rw [X.frames, List.length_cons] at h2 h3
    have q1 := X.heapSize
    have q2 := X.used
    simp only [hF, hU, List.length_cons, State.stackLimits_setFrames, State.stackBytes_setFrames, hl9, hb9]
    refine ⟨⟨⟨⟨by omega, by omega, by omega, by omega, by omega, h6⟩, ?_⟩, ?_⟩, X.book⟩
    · show T.heap.size + R'.cells ≤ e.platform.maxCells
      omega
    · show T.slotsUsed + R'.slots ≤ e.platform.maxSlots
      omega
  · rw [State.stackLimits_setFrames]; rfl
  · rw [State.stackBytes_setFrames]; rfl
  · refine ⟨?_, Nat.le_refl _, Nat.le_refl _, ?_, ?_, fun a c9 h9 => ⟨c9, h9, rfl, rfl, fun _ _ => rfl⟩⟩
    · obtain ⟨t, ht, -⟩ := State.frames_cons hr
      show T.setVm s.vm = { ((T.setVm s.vm).setFrames (.invoking m args :: below)).setFrames (T.setVm s.vm).frames with heap := T.heap, slotsUsed := T.slotsUsed }
      rw [State.setFrames_setFrames, State.setFrames_self ht]
      rfl
    · show T.slotsUsed = T.slotsUsed + ((T.heap.toList.drop T.heap.size).map (·.slots.size)).sum
      rw [List.drop_eq_nil_of_le (Nat.le_of_eq Array.length_toList)]
      rfl
    · show ((T.heap.toList.drop T.heap.size).map (·.slots.size)).sum ≤ 0
      rw [List.drop_eq_nil_of_le (Nat.le_of_eq Array.length_toList)]
      exact Nat.le_refl _
/-- 'throw new E()': new; dup; invokespecial; athrow -/
theorem vx_throw0 {cc : ByteArray} {pc : Nat} (hexec : p.tables.exec = Jvm.exec) (hb : c.code = cc) (hl : l.stackTraces = false) {own cls : String} {names : List String} {ik ic mc ms : Nat} {A : Nat → Prop}
    (hown : s.vm.findClass own = some m.cls) (hcls : Bundle.fit cls = true) (hnames : ∀ n ∈ names, Bundle.fit n = true)
    (hk : (Cond.classLink own ik cls).before args s = true) (hini : (Cond.initialized cls).before args s = true) (hat : ∀ w ∈ vx_at0 own ic cls names, w.before args s = true)
    (hgood : ∀ w ∈ Cond.classLink own ik cls :: Cond.initialized cls :: vx_at0 own ic cls names, vx_ot w = true)
    (hU : vx_Zq Bundle.tN "UNASSIGNED_STACK" Bundle.steD A s s.heap) (hN : vx_Zq Bundle.tN "SUPPRESSED_SENTINEL" Bundle.listD A s s.heap) (hS : va_S A s.heap H locs) (hsize : ls.size = c.maxLocals)
    (d0 : decode cc pc = .ok (.new ik, 3)) (d3 : decode cc (pc + 3) = .ok (.dup, 1)) (d4 : decode cc (pc + 4) = .ok (.invokespecial ic, 3)) (d7 : decode cc (pc + 7) = .ok (.athrow, 1))
    (hout : ∀ x ∈ c.exceptionTable.toList, covers x (pc + 7) = false)
    (hRframes : names.length + 3 < R.frames) (hRlocals : (rest.map fun v => v.category).sum + (13 * (names.length + 1) + 42) ≤ R.locals) (hRcells : cells + 1 ≤ R.cells) (hRslots : slots + 6 ≤ R.slots) (hlocks : meth.locks = false)
    (hx : ∀ t : State, s.vm.Alike t.vm → H.size ≤ t.heap.size → (∀ q : Nat, q < H.size → t.heap[q]? = H[q]?) → XC cls s t)
    (hf : ∀ z ∈ locs, free z.base) (hc : cells + 1 ≤ mc) (hs : slots + 6 ≤ ms) :
    W p l e R s m args below meth c H locs cells slots (vx_MQ below Qc XC args s mc ms free) (F0 m pc ls rest) := by
  intro T hT X
  have htr : e.platform.stackTraces = false := (show e.platform.stackTraces = l.stackTraces by rw [X.admits.platform]).trans hl
  have Y := vx_rebase X (R' := { frames := R.frames, locals := R.locals, cells := 1, slots := 6 }) (Nat.le_refl _) (Nat.le_refl _) hRcells hRslots
  obtain ⟨s', hA⟩ : ∃ z, z = (T.setVm s.vm).setFrames (.invoking m args :: below) := ⟨_, rfl⟩
  rw [← hA] at Y
  have hvm : s'.vm = s.vm := by rw [hA]; rfl
  have hhp : s'.heap = H := by rw [hA]; exact hT
  have hW0 : s.WarmedH s'.vm := by rw [hvm]; exact State.WarmedH.refl s
  have hat' : ∀ w ∈ vx_at0 own ic cls names, w.before args s' = true := fun w hw => vx_ot_at hW0 hvm.symm (hgood w (List.mem_cons_of_mem _ (List.mem_cons_of_mem _ hw))) (hat w hw)
  have hk' : (Cond.classLink own ik cls).before args s' = true := vx_ot_at hW0 hvm.symm (hgood _ List.mem_cons_self) hk
  have hini' : (Cond.initialized cls).before args s' = true := vx_ot_at hW0 hvm.symm (hgood _ (List.mem_cons_of_mem _ List.mem_cons_self)) hini
  have hU' : vx_Zq Bundle.tN "UNASSIGNED_STACK" Bundle.steD A s' s'.heap := by rw [hhp]; exact vx_Zq.moved hW0.alike (hU.kept hS.2.1)
  have hN' : vx_Zq Bundle.tN "SUPPRESSED_SENTINEL" Bundle.listD A s' s'.heap := by rw [hhp]; exact vx_Zq.moved hW0.alike (hN.kept hS.2.1)
  have h : ∀ w ∈ Bundle.ownAtoms0 own ic cls names, w.before args s' = true := vx_own hat' (vx_isRefq hU'.1) (vx_isRefq hN'.1) hU'.2.word hN'.2.word
  have hown' : s'.vm.findClass own = some m.cls := by rw [hvm]; exact hown
  have hins : (Cond.instantiable cls 6).before args s' = true := h _ (by simp [Bundle.ownAtoms0])
  obtain ⟨vm₁, cX, kX, hfX, hkX, -, -, X₁, st1⟩ := Y.newCold hexec (own := own) (C := cls) (index := ik) (n := 6) hown' hk' hins hini'
    (g := F0 m pc ls rest) rfl (by rw [hb]; exact d0) (Nat.le_refl _) (Nat.le_refl _)
  generalize hT1 : (T.setVm vm₁).pushCell { cls := cX, slots := kX.instanceTypes.map defaultValue, vm := .none } = T1 at X₁ st1
  have hcat : (Value.ref T.heap.size).category = 1 := rfl
  have hcellA : T1.heap[T.heap.size]? = some (freshCell cX kX) := by rw [← hT1]; exact State.heap_pushCell_size _ _
  have d3' : decode c.code (pc + 3) = .ok (.dup, 1) := by rw [hb]; exact d3
  obtain ⟨U, hsteps, hrun, hend, hW, hsame, ce, hce, hO⟩ := X₁.ctorThrow0 hexec htr (own := own) (cls := cls) (names := names) (ic := ic) hown' hcls hnames h (fun x hx => nomatch hx) hfX hkX hcellA (by rw [hhp, hT]; exact Nat.le_refl _)
    (g := { method := m, pc := pc + 4, locals := ls, stack := .ref T.heap.size :: .ref T.heap.size :: rest, locked := none }) rfl hsize rfl rfl (rest := rest) rfl
    (by rw [hb]; exact d4) (by rw [hb]; exact d7) hout hRframes (by simp only [List.map_cons, List.sum_cons, hcat]; omega) hlocks
  obtain ⟨f1, f2⟩ := vx_frame hsame
  rw [hhp] at f1 f2
  have hWs : s.WarmedH U.vm := State.WarmedH.trans hW0 hW
  have hcl : s.vm.findClass cls = some ce.cls := by
    have h9 := hO.cls
    rw [hvm] at h9
    exact h9
  have hall : s.sameButNew ({ U with vm := s.vm } : State) locs mc ms := by
    subst hA
    obtain ⟨e1, e2⟩ := hsame
    rw [State.setFrames_setFrames] at e1
    have h2 : (T.setVm s.vm).sameButNew ({ U with vm := s.vm } : State) [] (0 + 1) (0 + 6) := ⟨e1, e2⟩
    have h3 := X.same.trans h2
    rw [List.append_nil] at h3
    exact h3.mono hc hs
  refine ⟨U, ?_, .threw T.heap.size, hrun, hend, Or.inr ⟨T.heap.size, rfl, cls, ce, locs, hx U hWs.alike f1 (fun q hq => f2 q hq (fun z hz => nomatch hz)), hce, hO.vm, hcl, hWs, hall, hf⟩⟩
  refine st1 _ ?_
  show Steps p.tables e below (T1.setTop { method := m, pc := pc + 3, locals := ls, stack := .ref T.heap.size :: rest, locked := none }) _
  jvm_step X₁.here [X₁.here.top, hexec, d3', Value.category]
  exact hsteps
/-- 'throw new E("text")': new; dup; ldc; invokespecial; athrow -/
theorem vx_throwS {cc : ByteArray} {pc : Nat} (hexec : p.tables.exec = Jvm.exec) (hb : c.code = cc) (hl : l.stackTraces = false) {own cls text : String} {names : List String} {ik is ic mc ms sa : Nat} {A : Nat → Prop}
    (hown : s.vm.findClass own = some m.cls) (hcls : Bundle.fit cls = true) (hnames : ∀ n ∈ names, Bundle.fit n = true)
    (hk : (Cond.classLink own ik cls).before args s = true) (hini : (Cond.initialized cls).before args s = true) (hstr : vk_R own is text sa s) (hat : ∀ w ∈ vx_atS own ic cls names, w.before args s = true)
    (hgood : ∀ w ∈ Cond.classLink own ik cls :: Cond.initialized cls :: vx_atS own ic cls names, vx_ot w = true)
    (hU : vx_Zq Bundle.tN "UNASSIGNED_STACK" Bundle.steD A s s.heap) (hN : vx_Zq Bundle.tN "SUPPRESSED_SENTINEL" Bundle.listD A s s.heap) (hS : va_S A s.heap H locs) (hsize : ls.size = c.maxLocals)
    (d0 : decode cc pc = .ok (.new ik, 3)) (d3 : decode cc (pc + 3) = .ok (.dup, 1)) (d4 : decode cc (pc + 4) = .ok (.ldc is, 2)) (d6 : decode cc (pc + 6) = .ok (.invokespecial ic, 3)) (d9 : decode cc (pc + 9) = .ok (.athrow, 1))
    (hout : ∀ x ∈ c.exceptionTable.toList, covers x (pc + 9) = false)
    (hRframes : names.length + 3 < R.frames) (hRlocals : (rest.map fun v => v.category).sum + (13 * (names.length + 1) + 43) ≤ R.locals) (hRcells : cells + 1 ≤ R.cells) (hRslots : slots + 6 ≤ R.slots) (hlocks : meth.locks = false)
    (hx : ∀ t : State, s.vm.Alike t.vm → H.size ≤ t.heap.size → (∀ q : Nat, q < H.size → t.heap[q]? = H[q]?) → XC cls s t)
    (hf : ∀ z ∈ locs, free z.base) (hc : cells + 1 ≤ mc) (hs : slots + 6 ≤ ms) :
    W p l e R s m args below meth c H locs cells slots (vx_MQ below Qc XC args s mc ms free) (F0 m pc ls rest) := by
  intro T hT X
  have htr : e.platform.stackTraces = false := (show e.platform.stackTraces = l.stackTraces by rw [X.admits.platform]).trans hl
  have Y := vx_rebase X (R' := { frames := R.frames, locals := R.locals, cells := 1, slots := 6 }) (Nat.le_refl _) (Nat.le_refl _) hRcells hRslots
  obtain ⟨s', hA⟩ : ∃ z, z = (T.setVm s.vm).setFrames (.invoking m args :: below) := ⟨_, rfl⟩
  rw [← hA] at Y
  have hvm : s'.vm = s.vm := by rw [hA]; rfl
  have hhp : s'.heap = H := by rw [hA]; exact hT
  have hW0 : s.WarmedH s'.vm := by rw [hvm]; exact State.WarmedH.refl s
  have hat' : ∀ w ∈ vx_atS own ic cls names, w.before args s' = true := fun w hw => vx_ot_at hW0 hvm.symm (hgood w (List.mem_cons_of_mem _ (List.mem_cons_of_mem _ hw))) (hat w hw)
  have hk' : (Cond.classLink own ik cls).before args s' = true := vx_ot_at hW0 hvm.symm (hgood _ List.mem_cons_self) hk
  have hini' : (Cond.initialized cls).before args s' = true := vx_ot_at hW0 hvm.symm (hgood _ (List.mem_cons_of_mem _ List.mem_cons_self)) hini
  have hU' : vx_Zq Bundle.tN "UNASSIGNED_STACK" Bundle.steD A s' s'.heap := by rw [hhp]; exact vx_Zq.moved hW0.alike (hU.kept hS.2.1)
  have hN' : vx_Zq Bundle.tN "SUPPRESSED_SENTINEL" Bundle.listD A s' s'.heap := by rw [hhp]; exact vx_Zq.moved hW0.alike (hN.kept hS.2.1)
  have h : ∀ w ∈ Bundle.ownAtoms own ic cls names, w.before args s' = true := vx_own hat' (vx_isRefq hU'.1) (vx_isRefq hN'.1) hU'.2.word hN'.2.word
  have hown' : s'.vm.findClass own = some m.cls := by rw [hvm]; exact hown
  have hins : (Cond.instantiable cls 6).before args s' = true := h _ (by simp [Bundle.ownAtoms])
  obtain ⟨vm₁, cX, kX, hfX, hkX, -, -, X₁, st1⟩ := Y.newCold hexec (own := own) (C := cls) (index := ik) (n := 6) hown' hk' hins hini'
    (g := F0 m pc ls rest) rfl (by rw [hb]; exact d0) (Nat.le_refl _) (Nat.le_refl _)
  generalize hT1 : (T.setVm vm₁).pushCell { cls := cX, slots := kX.instanceTypes.map defaultValue, vm := .none } = T1 at X₁ st1
  have hcat : (Value.ref T.heap.size).category = 1 := rfl
  have hcellA : T1.heap[T.heap.size]? = some (freshCell cX kX) := by rw [← hT1]; exact State.heap_pushCell_size _ _
  have d3' : decode c.code (pc + 3) = .ok (.dup, 1) := by rw [hb]; exact d3
  have d4' : decode c.code (pc + 4) = .ok (.ldc is, 2) := by rw [hb]; exact d4
  have hstr' : vk_R own is text sa s' := vk_R.warm hW0 hstr
  obtain ⟨U, hsteps, hrun, hend, hW, hsame, ce, hce, hO⟩ := X₁.ctorThrowS hexec htr (own := own) (cls := cls) (names := names) (ic := ic) hown' hcls hnames h (fun x hx => nomatch hx) hfX hkX hcellA (by rw [hhp, hT]; exact Nat.le_refl _) (msg := .ref sa) rfl
    (g := { method := m, pc := pc + 6, locals := ls, stack := .ref sa :: .ref T.heap.size :: .ref T.heap.size :: rest, locked := none }) rfl hsize rfl rfl (rest := rest) rfl
    (by rw [hb]; exact d6) (by rw [hb]; exact d9) hout hRframes (by simp only [List.map_cons, List.sum_cons, hcat]; omega) hlocks
  obtain ⟨f1, f2⟩ := vx_frame hsame
  rw [hhp] at f1 f2
  have hWs : s.WarmedH U.vm := State.WarmedH.trans hW0 hW
  have hcl : s.vm.findClass cls = some ce.cls := by
    have h9 := hO.cls
    rw [hvm] at h9
    exact h9
  have hall : s.sameButNew ({ U with vm := s.vm } : State) locs mc ms := by
    subst hA
    obtain ⟨e1, e2⟩ := hsame
    rw [State.setFrames_setFrames] at e1
    have h2 : (T.setVm s.vm).sameButNew ({ U with vm := s.vm } : State) [] (0 + 1) (0 + 6) := ⟨e1, e2⟩
    have h3 := X.same.trans h2
    rw [List.append_nil] at h3
    exact h3.mono hc hs
  refine ⟨U, ?_, .threw T.heap.size, hrun, hend, Or.inr ⟨T.heap.size, rfl, cls, ce, locs, hx U hWs.alike f1 (fun q hq => f2 q hq (fun z hz => nomatch hz)), hce, hO.vm, hcl, hWs, hall, hf⟩⟩
  refine st1 _ ?_
  show Steps p.tables e below (T1.setTop { method := m, pc := pc + 3, locals := ls, stack := .ref T.heap.size :: rest, locked := none }) _
  jvm_step X₁.here [X₁.here.top, hexec, d3', Value.category]
  exact X₁.ldcString hexec (own := own) (text := text) (index := is) (a := sa) hown' hstr'.1 hstr'.2
    (g := { method := m, pc := pc + 4, locals := ls, stack := .ref T.heap.size :: .ref T.heap.size :: rest, locked := none }) rfl d4' _ hsteps
/-- 'throw new E("text")', the text by a wide index -/
theorem vx_throwSW {cc : ByteArray} {pc : Nat} (hexec : p.tables.exec = Jvm.exec) (hb : c.code = cc) (hl : l.stackTraces = false) {own cls text : String} {names : List String} {ik is ic mc ms sa : Nat} {A : Nat → Prop}
    (hown : s.vm.findClass own = some m.cls) (hcls : Bundle.fit cls = true) (hnames : ∀ n ∈ names, Bundle.fit n = true)
    (hk : (Cond.classLink own ik cls).before args s = true) (hini : (Cond.initialized cls).before args s = true) (hstr : vk_R own is text sa s) (hat : ∀ w ∈ vx_atS own ic cls names, w.before args s = true)
    (hgood : ∀ w ∈ Cond.classLink own ik cls :: Cond.initialized cls :: vx_atS own ic cls names, vx_ot w = true)
    (hU : vx_Zq Bundle.tN "UNASSIGNED_STACK" Bundle.steD A s s.heap) (hN : vx_Zq Bundle.tN "SUPPRESSED_SENTINEL" Bundle.listD A s s.heap) (hS : va_S A s.heap H locs) (hsize : ls.size = c.maxLocals)
    (d0 : decode cc pc = .ok (.new ik, 3)) (d3 : decode cc (pc + 3) = .ok (.dup, 1)) (d4 : decode cc (pc + 4) = .ok (.ldc_w is, 3)) (d7 : decode cc (pc + 7) = .ok (.invokespecial ic, 3)) (d10 : decode cc (pc + 10) = .ok (.athrow, 1))
    (hout : ∀ x ∈ c.exceptionTable.toList, covers x (pc + 10) = false)
    (hRframes : names.length + 3 < R.frames) (hRlocals : (rest.map fun v => v.category).sum + (13 * (names.length + 1) + 43) ≤ R.locals) (hRcells : cells + 1 ≤ R.cells) (hRslots : slots + 6 ≤ R.slots) (hlocks : meth.locks = false)
    (hx : ∀ t : State, s.vm.Alike t.vm → H.size ≤ t.heap.size → (∀ q : Nat, q < H.size → t.heap[q]? = H[q]?) → XC cls s t)
    (hf : ∀ z ∈ locs, free z.base) (hc : cells + 1 ≤ mc) (hs : slots + 6 ≤ ms) :
    W p l e R s m args below meth c H locs cells slots (vx_MQ below Qc XC args s mc ms free) (F0 m pc ls rest) := by
  intro T hT X
  have htr : e.platform.stackTraces = false := (show e.platform.stackTraces = l.stackTraces by rw [X.admits.platform]).trans hl
  have Y := vx_rebase X (R' := { frames := R.frames, locals := R.locals, cells := 1, slots := 6 }) (Nat.le_refl _) (Nat.le_refl _) hRcells hRslots
  obtain ⟨s', hA⟩ : ∃ z, z = (T.setVm s.vm).setFrames (.invoking m args :: below) := ⟨_, rfl⟩
  rw [← hA] at Y
  have hvm : s'.vm = s.vm := by rw [hA]; rfl
  have hhp : s'.heap = H := by rw [hA]; exact hT
  have hW0 : s.WarmedH s'.vm := by rw [hvm]; exact State.WarmedH.refl s
  have hat' : ∀ w ∈ vx_atS own ic cls names, w.before args s' = true := fun w hw => vx_ot_at hW0 hvm.symm (hgood w (List.mem_cons_of_mem _ (List.mem_cons_of_mem _ hw))) (hat w hw)
  have hk' : (Cond.classLink own ik cls).before args s' = true := vx_ot_at hW0 hvm.symm (hgood _ List.mem_cons_self) hk
  have hini' : (Cond.initialized cls).before args s' = true := vx_ot_at hW0 hvm.symm (hgood _ (List.mem_cons_of_mem _ List.mem_cons_self)) hini
  have hU' : vx_Zq Bundle.tN "UNASSIGNED_STACK" Bundle.steD A s' s'.heap := by rw [hhp]; exact vx_Zq.moved hW0.alike (hU.kept hS.2.1)
  have hN' : vx_Zq Bundle.tN "SUPPRESSED_SENTINEL" Bundle.listD A s' s'.heap := by rw [hhp]; exact vx_Zq.moved hW0.alike (hN.kept hS.2.1)
  have h : ∀ w ∈ Bundle.ownAtoms own ic cls names, w.before args s' = true := vx_own hat' (vx_isRefq hU'.1) (vx_isRefq hN'.1) hU'.2.word hN'.2.word
  have hown' : s'.vm.findClass own = some m.cls := by rw [hvm]; exact hown
  have hins : (Cond.instantiable cls 6).before args s' = true := h _ (by simp [Bundle.ownAtoms])
  obtain ⟨vm₁, cX, kX, hfX, hkX, -, -, X₁, st1⟩ := Y.newCold hexec (own := own) (C := cls) (index := ik) (n := 6) hown' hk' hins hini'
    (g := F0 m pc ls rest) rfl (by rw [hb]; exact d0) (Nat.le_refl _) (Nat.le_refl _)
  generalize hT1 : (T.setVm vm₁).pushCell { cls := cX, slots := kX.instanceTypes.map defaultValue, vm := .none } = T1 at X₁ st1
  have hcat : (Value.ref T.heap.size).category = 1 := rfl
  have hcellA : T1.heap[T.heap.size]? = some (freshCell cX kX) := by rw [← hT1]; exact State.heap_pushCell_size _ _
  have d3' : decode c.code (pc + 3) = .ok (.dup, 1) := by rw [hb]; exact d3
  have d4' : decode c.code (pc + 4) = .ok (.ldc_w is, 3) := by rw [hb]; exact d4
  have hstr' : vk_R own is text sa s' := vk_R.warm hW0 hstr
  obtain ⟨U, hsteps, hrun, hend, hW, hsame, ce, hce, hO⟩ := X₁.ctorThrowS hexec htr (own := own) (cls := cls) (names := names) (ic := ic) hown' hcls hnames h (fun x hx => nomatch hx) hfX hkX hcellA (by rw [hhp, hT]; exact Nat.le_refl _) (msg := .ref sa) rfl
    (g := { method := m, pc := pc + 7, locals := ls, stack := .ref sa :: .ref T.heap.size :: .ref T.heap.size :: rest, locked := none }) rfl hsize rfl rfl (rest := rest) rfl
    (by rw [hb]; exact d7) (by rw [hb]; exact d10) hout hRframes (by simp only [List.map_cons, List.sum_cons, hcat]; omega) hlocks
  obtain ⟨f1, f2⟩ := vx_frame hsame
  rw [hhp] at f1 f2
  have hWs : s.WarmedH U.vm := State.WarmedH.trans hW0 hW
  have hcl : s.vm.findClass cls = some ce.cls := by
    have h9 := hO.cls
    rw [hvm] at h9
    exact h9
  have hall : s.sameButNew ({ U with vm := s.vm } : State) locs mc ms := by
    subst hA
    obtain ⟨e1, e2⟩ := hsame
    rw [State.setFrames_setFrames] at e1
    have h2 : (T.setVm s.vm).sameButNew ({ U with vm := s.vm } : State) [] (0 + 1) (0 + 6) := ⟨e1, e2⟩
    have h3 := X.same.trans h2
    rw [List.append_nil] at h3
    exact h3.mono hc hs
  refine ⟨U, ?_, .threw T.heap.size, hrun, hend, Or.inr ⟨T.heap.size, rfl, cls, ce, locs, hx U hWs.alike f1 (fun q hq => f2 q hq (fun z hz => nomatch hz)), hce, hO.vm, hcl, hWs, hall, hf⟩⟩
  refine st1 _ ?_
  show Steps p.tables e below (T1.setTop { method := m, pc := pc + 3, locals := ls, stack := .ref T.heap.size :: rest, locked := none }) _
  jvm_step X₁.here [X₁.here.top, hexec, d3', Value.category]
  exact X₁.ldcStringW hexec (own := own) (text := text) (index := is) (a := sa) hown' hstr'.1 hstr'.2
    (g := { method := m, pc := pc + 4, locals := ls, stack := .ref T.heap.size :: .ref T.heap.size :: rest, locked := none }) rfl d4' _ hsteps
end Ends
section Bodies
variable {l : Launch}
theorem vx_ofW {y : MethodName} {ws ws' : List Cond} {rm : Room} {Pc : Array Value → State → Prop} {Qc : Array Value → State → Outcome → State → Prop} {XC : String → State → State → Prop} {mc ms : Nat} {free : Addr → Prop} {cc : ByteArray} {maxL : Nat} {ret : Option FieldType}
    (hy : plainName y.cls = true) (hw : ws = Cond.code y cc maxL ret :: ws')
    (body : ∀ p e s m args below meth c s₁, BodyLoose p l y (headSpec ws rm) cc maxL ret e s m args below meth c s₁ → c.maxLocals = maxL → (∀ x ∈ c.exceptionTable.toList, False) → Pc args s →
      W p l e (headSpec ws rm).room s m args below meth c s.heap [] 0 0 (vx_MQ below Qc XC args s mc ms free) (entryFrame m args maxL)) : vx_Met l y ws rm Pc Qc XC mc ms free := by
  refine MetFree.of_bodyS (code := cc) (maxLocals := maxL) (ret := ret) hy ?_ ?_
  · intro args s m h hn
    obtain ⟨meth, c, h1, h2, h3, h4, h5, h6, -, -⟩ := Cond.code_spec hn (atoms_spec (ws := ws) h _ (by rw [hw]; exact List.mem_cons_self))
    exact ⟨meth, c, h1, h2, h3, h4, h5, h6⟩
  · intro p e s m args below meth c s₁ B hml hP _
    have hh0 : s₁.heap = s.heap := by rw [B.state]; rfl
    have ht : ∀ x ∈ c.exceptionTable.toList, False := by
      obtain ⟨meth9, c9, h1, h2, -, -, -, -, h7, -⟩ := Cond.code_spec B.named (atoms_spec (ws := ws) B.pre _ (by rw [hw]; exact List.mem_cons_self))
      cases Option.some.inj (h1.symm.trans B.method)
      cases Option.some.inj (h2.symm.trans (Stand.of_body B).code)
      intro x hx
      rw [Array.isEmpty_iff.mp h7] at hx
      cases hx
    obtain ⟨t, a1, o, b1, b2, b3⟩ := body p e s m args below meth c s₁ B hml ht hP s₁ hh0 (Stand.of_body B)
    exact ⟨t, o, a1, b1, b2, b3⟩
/-- the table of a body with handlers -/
theorem vx_table {p : Program} {x y : MethodName} {S : Spec} {cc bytes : ByteArray} {maxL maxL' : Nat} {ret ret' : Option FieldType} {e : Env} {s s₁ : State} {m : MethodId} {args : Array Value} {below : List Frame} {meth : Method} {c : Code} {hh : List (Nat × Nat × Nat × Nat)}
    (B : BodyLoose p l y S cc maxL ret e s m args below meth c s₁) (h : (Cond.codeWith y bytes maxL' ret' hh).before args s = true) : c.exceptionTable.toList = tableOf hh := by
  obtain ⟨m9, meth9, c9, hn9, h1, h2, -, -, h6, -⟩ := Cond.codeWith_spec h
  cases Option.some.inj (hn9.symm.trans B.named)
  cases Option.some.inj (h1.symm.trans B.method)
  cases Option.some.inj (h2.symm.trans (Stand.of_body B).code)
  rw [← h6, table_eq]
end Bodies
end VXA
/-! ===== END ===== -/
/-! ===== BEGIN a static call of a method with an exception table ===== -/
section VXS
variable {p : Program} {l : Launch} {e : Env} {R : Room} {s : State} {m : MethodId} {args : Array Value} {below : List Frame} {meth : Method} {c : Code} {T : State} {H : Heap} {locs : List Loc} {cells slots : Nat}
abbrev vx_CSW (R : Room) (s : State) (args : Array Value) (own : String) (index : Nat) (y : MethodName) (bytes : ByteArray) (maxL : Nat) (ret : Option FieldType) (hh : List (Nat × Nat × Nat × Nat)) (ws : List Cond) (rm : Room) (mc ms n : Nat) : Prop :=
  (rm.cells = mc ∧ rm.slots = ms ∧ rm.frames + 1 ≤ R.frames ∧ 8 + (maxL + 11) + rm.locals ≤ R.locals ∧ (∀ w ∈ ws, ∀ (a' : Array Value) (U : State), s.WarmedH U.vm → w.before a' U = true) ∧ Cond.codeWith y bytes maxL ret hh ∈ ws) ∧
  (Cond.codeWith y bytes maxL ret hh).before args s = true ∧ (Cond.initialized y.cls).before args s = true ∧ (y.cls ≠ "java/lang/invoke/MethodHandle" ∧ y.cls ≠ "java/lang/invoke/VarHandle") ∧
  (∀ sig, parseMethodDescriptor y.desc = some sig → n = sig.parameters.length) ∧ (Cond.methodLink own index y).before args s = true ∧ (Cond.static y).before args s = true
theorem vx_cwSW {own : String} {index maxL mc ms : Nat} {y : MethodName} {bytes : ByteArray} {ret : Option FieldType} {hh : List (Nat × Nat × Nat × Nat)} {Ts ws ws' : List Cond} {rm : Room} (n : Nat) (ht : ∀ w ∈ Ts, w.before args s = true) (hT : GoodIn Ts (va_wsS own index y ws)) (hw : ws = Cond.codeWith y bytes maxL ret hh :: ws') (hrc : rm.cells = mc) (hrs : rm.slots = ms)
    (hd : y.cls ≠ "java/lang/invoke/MethodHandle" ∧ y.cls ≠ "java/lang/invoke/VarHandle" ∧ (parseMethodDescriptor y.desc).map (fun d => d.parameters.length) = some n) (hR : rm.frames + 1 ≤ R.frames ∧ 8 + (maxL + 11) + rm.locals ≤ R.locals) :
    vx_CSW R s args own index y bytes maxL ret hh ws rm mc ms n := by
  have ok : ∀ w ∈ va_wsS own index y ws, w.before args s = true := fun w h => ht w (hT w h).1
  have hG : GoodIn Ts ws := fun w h => hT w (by unfold va_wsS; exact List.mem_append_right _ h)
  have hc : Cond.codeWith y bytes maxL ret hh ∈ ws := by rw [hw]; exact List.mem_cons_self
  refine ⟨⟨hrc, hrs, hR.1, hR.2, pay_in ht hG, hc⟩, ht _ (hG _ hc).1, ok _ (by simp [va_wsS]), ⟨hd.1, hd.2.1⟩, fun sig h => ?_, ok _ (by simp [va_wsS]), ok _ (by simp [va_wsS])⟩
  have h2 := hd.2.2
  rw [h] at h2
  exact (Option.some.inj h2).symm
theorem vx_callSW (X : Stand p l e R s m args below meth c T locs cells slots) (hexec : p.tables.exec = Jvm.exec) {own : String} {index : Nat} {y : MethodName} {bytes : ByteArray} {maxL : Nat} {ret : Option FieldType} {hh : List (Nat × Nat × Nat × Nat)}
    (hown : s.vm.findClass own = some m.cls) (hlink : (Cond.methodLink own index y).before args s = true) (hstat : (Cond.static y).before args s = true) (hinit : (Cond.initialized y.cls).before args s = true)
    (hcode : (Cond.codeWith y bytes maxL ret hh).before args s = true) (hy : y.cls ≠ "java/lang/invoke/MethodHandle" ∧ y.cls ≠ "java/lang/invoke/VarHandle")
    {W9 : Nat} {Pre : Pt → Array Value → Prop} {Post : Pt → Array Value → Option Value → Pt → Prop} (hK : Back l R p e below s args y 3 W9 Pre Post)
    {g : JFrame} (hg : g.method = m) (hsize : g.locals.size = c.maxLocals) {argsL rest : List Value} (hlen : ∀ sig, parseMethodDescriptor y.desc = some sig → argsL.length = sig.parameters.length)
    (hstack : g.stack = argsL.reverse ++ rest) (hW : 2 * g.monitorRoom + (rest.map fun v => v.category).sum ≤ W9) (hdg : decode c.code g.pc = .ok (.invokestatic index, 3))
    (hpre : ∀ vm₁, s.WarmedH vm₁ → Pre ⟨T.setVm vm₁, locs, cells, slots⟩ argsL.toArray) :
    ∃ (v : Option Value) (vm₁ : Vm) (B : Pt), s.WarmedH vm₁ ∧ Stand p l e R s m args below meth c B.U B.locs B.cells B.slots ∧ Post ⟨T.setVm vm₁, locs, cells, slots⟩ argsL.toArray v B ∧
      ∀ target, Steps p.tables e below (B.U.setTop { g with pc := g.pc + 3, stack := v.toList ++ rest }) target → Steps p.tables e below (T.setTop g) target := by
  obtain ⟨mk, methM, cM, hnamed, hmethM, -, -, -, -, -, -, hsigM⟩ := Cond.codeWith_spec hcode
  have hstatic : methM.isStatic = true := Cond.static_spec hnamed hmethM hstat
  obtain ⟨kP, hkP, -⟩ := className_of_methodNamed hnamed
  have hinitP : kP.init = .initialized := Cond.initialized_spec (findClass_of_methodNamed hnamed) hkP hinit
  obtain ⟨vm₁, X₁, hstep₁⟩ := X.invokestatic hexec hown hlink hnamed hmethM hstatic hkP hinitP hy (g := g) hg (argsL := argsL) (rest := rest) (hlen _ hsigM) hstack hdg
  obtain ⟨v, B, X', hpost, hsteps⟩ := hK m meth c ⟨T.setVm vm₁, locs, cells, slots⟩ { g with stack := rest } (.invokestatic index) mk argsL.toArray X₁ hg hsize hdg hW (X₁.named hnamed) (hpre vm₁ X₁.warmed)
  exact ⟨v, vm₁, B, X₁.warmed, X', hpost, fun target h => hstep₁ _ fun acts => by rw [doInvoke_state]; exact hsteps.trans h⟩
theorem vx_runSW {y : MethodName} {bytes cc : ByteArray} {maxL nL mc ms n index : Nat} {ret : Option FieldType} {hh : List (Nat × Nat × Nat × Nat)} {ws : List Cond} {rm : Room} {Pc : Array Value → State → Prop} {Qc : Array Value → State → Outcome → State → Prop} {free : Addr → Prop} {Ts : List Cond} {own : String} {As rest : List Value} {g : JFrame}
    (S : CallFix p m c cc nL s args Ts own) (hM : Met l y ws rm Pc Qc mc ms free) (cw : vx_CSW R s args own index y bytes maxL ret hh ws rm mc ms n) (hp : PreS s H Pc As)
    (hg : g.method = m) (hn : As.length = n) (hsize : g.locals.size = nL) (hstack : g.stack = As.reverse ++ rest) (hW : 2 * g.monitorRoom + (rest.map fun v => v.category).sum ≤ 8) (hdg : decode cc g.pc = .ok (.invokestatic index, 3)) (hf : cells + mc ≤ R.cells ∧ slots + ms ≤ R.slots) :
    va_Run p l e R s m args below meth c H locs cells slots mc ms g rest (Qc As.toArray) (free) := by
  obtain ⟨⟨hrc, hrs, hfr, hlo, hws, hcw⟩, hcode, hini, hy, hlen, hl, hstt⟩ := cw
  have hK : Back l R p e below s args y 3 8 (PreOf R mc ms Pc) (PostOf Qc mc ms free) := va_backW (hh := hh) (bytes := bytes) (maxL := maxL) (ret := ret) hM hp.1 hrc hrs hfr hlo hws hcw (fun a' U hW => word_at hW (Or.inl (by first | rfl | simp [Cond.onTables, Cond.keeps, Cond.steady])) hini)
  obtain ⟨hx, hb, hml, ho, -⟩ := S
  intro T hT X
  obtain ⟨v, vm₁, ⟨U', l2, c2, s2⟩, hW₁, X', ⟨g', mk, t, L, e1, e2, hq, h1, hL, h2, h3⟩, st⟩ := vx_callSW X hx (hh := hh) (bytes := bytes) (maxL := maxL) (ret := ret) ho hl hstt hini hcode hy hK hg (hsize.trans hml.symm) (argsL := As) (rest := rest) (fun sig h => hn.trans (hlen sig h)) hstack hW (by rw [hb]; exact hdg)
    (fun vm₁ hW₁ => ⟨hf.1, hf.2, hp.2 (T.setVm vm₁) hT hW₁⟩)
  dsimp only [Pt.U, Pt.locs, Pt.cells, Pt.slots] at X' e1 e2 h1 h2 h3 st
  subst h1; subst h2; subst h3
  exact ⟨v, (T.setVm vm₁).calling g' mk As.toArray, t, U', L, hT, X', hL, e1, e2, hq, st⟩
/-- not caught here, past rows that name other classes: it goes on to the caller -/
theorem vx_outP {p : Program} {l : Launch} {e : Env} {R : Room} {s : State} {m : MethodId} {args : Array Value} {below : List Frame} {meth : Method} {c : Code} {H : Heap} {locs : List Loc} {cells slots : Nat} {free : Addr → Prop} {ls : Array Slot} {rest : List Value} {Qc : Array Value → State → Outcome → State → Prop} {XC : String → State → State → Prop}
    {pc : Nat} {own E : String} {ce : Cell} {q : Addr} {mc ms : Nat} (hown : s.vm.findClass own = some m.cls) (hlocks : meth.locks = false)
    (hpass : ∀ z ∈ c.exceptionTable.toList, covers z pc = false ∨ (z.catchType ≠ 0 ∧ ∃ nm : String, (Cond.classLink own z.catchType nm).before args s = true ∧ va_Nc E nm s)) (hcell : H[q]? = some ce) (hv : ce.vm = .none) (hcl : s.vm.findClass E = some ce.cls)
    (hx : ∀ t : State, t.heap = H → s.vm.Alike t.vm → XC E s t) (hf : ∀ z ∈ locs, free z.base) (hc : cells ≤ mc) (hs : slots ≤ ms) :
    vx_W p l e R s m args below meth c H locs cells slots (vx_MQ below Qc XC args s mc ms free) (F0 m pc ls rest) q := by
  intro T hT X
  have hpl : e.platform.magicAccessors = ({} : Platform).magicAccessors := by rw [X.admits.platform]
  obtain ⟨vm', hW', X', st⟩ := X.outThrough hlocks q (g := F0 m pc ls rest) rfl rfl rfl (cell := ce) (by rw [hT]; exact hcell) (by rw [hv]; rfl)
    (by obtain ⟨k9, h9, -⟩ := Vm.findClass_spec hcl; exact ⟨k9, h9⟩) (fun z hz => by
      rcases hpass z hz with h | ⟨hz0, nm, hl1, hn1⟩
      · exact Or.inl h
      · obtain ⟨c6, hc6, hcl6⟩ := Cond.classLink_spec hown hl1 e.platform hpl
        obtain ⟨a8, b8, h1, h2, h3⟩ := hn1
        cases Option.some.inj (h1.symm.trans hcl)
        cases Option.some.inj (h2.symm.trans hc6)
        exact Or.inr ⟨hz0, _, hcl6, h3⟩)
  obtain ⟨g₀, hfr⟩ := X'.frames_eq
  have hcell9 : ((T.setVm vm').setFrames (.throwing q :: below)).heap[q]? = some ce := by
    show T.heap[q]? = some ce
    rw [hT]; exact hcell
  have hend : Ended ((T.setVm vm').setFrames (.throwing q :: below)) below (.threw q) := State.frames_setFrames _ (State.cur_lt_of_frames hfr)
  refine ⟨(T.setVm vm').setFrames (.throwing q :: below), ?_, .threw q, X'.here.running, hend, Or.inr ⟨q, rfl, E, ce, locs, hx _ hT (X'.ends _).1.alike, hcell9, hv, hcl, (X'.ends _).1, (X'.ends _).2.mono hc hs, hf⟩⟩
  rw [X.pushThrowing_eq]
  exact st
/-- a thing of a world lies in the heap -/
theorem vx_lt {D : va_G} {cl : List vw_C} {ws : va_W} {H1 : Heap} (h : va_P D cl ws H1) {k : Nat} {q : Nat × va_E} (hk : ws[k]? = some q) : q.1 < H1.size := (h k q hk).lt
end VXS
/-! ===== END ===== -/
/-! ===== BEGIN methods with a table of their own: called by a name, returning or throwing ===== -/
section VXH
/-! vx_backW, vx_callVX, vx_callSX, vx_callVW, vx_runVW, vx_runVX, vx_runSX, vx_ofWH follow the same proofs as their sisters above (Free/Laws.lean, Shelf42/LK1.lean); vx_outP calls Shelf42/NT130.lean (outThrough). -/
section
variable {l : Launch} {R : Room} {p : Program} {e : Env} {below : List Frame} {s : State} {sargs : Array Value} {y : MethodName} {len W9 : Nat}
theorem vx_backW {ws : List Cond} {rm : Room} {Pc : Array Value → State → Prop} {Qc : Array Value → State → Outcome → State → Prop} {XC : String → State → State → Prop} {mc ms : Nat} {free : Addr → Prop} {bytes : ByteArray} {maxL : Nat} {ret : Option FieldType} {hh : List (Nat × Nat × Nat × Nat)}
    (hM : vx_Met l y ws rm Pc Qc XC mc ms free) (hblind : FrameBlind Pc) (hrc : rm.cells = mc) (hrs : rm.slots = ms)
    (hframes : rm.frames + 1 ≤ R.frames) (hlocals : W9 + (maxL + 11) + rm.locals ≤ R.locals)
    (hws : ∀ w ∈ ws, ∀ a' U, s.WarmedH U.vm → w.before a' U = true) (hcode : Cond.codeWith y bytes maxL ret hh ∈ ws) (hinit : ∀ a' U, s.WarmedH U.vm → (Cond.initialized y.cls).before a' U = true) :
    vx_Back l R p e below s sargs y len W9 (PreOf R mc ms Pc) (PostOf Qc mc ms free) (vx_Post XC mc ms free) := by
  intro m meth c A g ig mk a X hg hsize hdg hW hn hp
  have h1 : (headSpec ws rm).pre.before a A.U = true := atoms_intro fun w hw => hws w hw _ _ X.warmed
  have h2 : (Cond.codeWith y bytes maxL ret hh).before a A.U = true := hws _ hcode _ _ X.warmed
  have h3 : (Cond.initialized y.cls).before a A.U = true := hinit _ _ X.warmed
  have h4 : A.cells + (headSpec ws rm).room.cells ≤ R.cells := by rw [show (headSpec ws rm).room.cells = mc from hrc]; exact hp.1
  have h5 : A.slots + (headSpec ws rm).room.slots ≤ R.slots := by rw [show (headSpec ws rm).room.slots = ms from hrs]; exact hp.2.1
  have hPc : Pc a (A.U.calling g mk a) := hblind _ _ _ _ hp.2.2
  obtain ⟨U, Ls, c0, s0⟩ := A
  dsimp only [Pt.U, Pt.locs, Pt.cells, Pt.slots] at h1 h2 h3 h4 h5 X hn hPc ⊢
  obtain ⟨m9, methY, cY, hn9, hmY, hcY, -, hlY, -⟩ := Cond.codeWith_spec h2
  cases Option.some.inj (hn9.symm.trans hn)
  obtain ⟨kY, hkY, -⟩ := className_of_methodNamed hn
  have hinitY : kY.init = .initialized := Cond.initialized_spec (findClass_of_methodNamed hn) hkY h3
  have h : At U g.method c below := by rw [hg]; exact X.here
  have hlocals9 : W9 + (maxL + 11) + (headSpec ws rm).room.locals ≤ R.locals := hlocals
  have happ : (headSpec ws rm).appliesLoose y e.platform (U.calling g mk a) = true :=
    Spec.appliesLoose_calling (g := g) h hdg hn hkY hinitY
      (X.room_calling (g := g) (R' := (headSpec ws rm).room) hsize hmY hcY hframes (by rw [hlY]; omega) h4 h5) h1
  obtain ⟨mid, hmid⟩ := h.above
  have hfr : (U.setTop g).frames = (.java g :: mid) ++ below := by rw [State.frames_setTop' g h.top, hmid]; rfl
  obtain ⟨o, s₂, hsteps, -, hend, hq⟩ := Steps.callFree hM p X.admits X.cas X.clock (acts := []) hfr happ hPc trivial
  have hq' : vx_Q Qc XC mc ms free a (U.calling g mk a) o s₂ := hq
  rw [State.frames_setTop' g h.top] at hend
  obtain ⟨g₀, hg0⟩ := Option.isSome_iff_exists.mp h.top
  obtain ⟨r, hr⟩ := State.topJava?_eq_some.mp hg0
  have hr' : (({ U with heap := s₂.heap, slotsUsed := s₂.slotsUsed } : State).setVm s₂.vm).frames = .java g₀ :: r := hr
  rcases hq' with ⟨hqc, L, hfe, hL⟩ | ⟨q, rfl, E, ce, L, hx, hce, hcv, hcl, hW₂, hsm, hL⟩
  · obtain ⟨⟨v, rfl⟩, hW₂, e2, q2, q3, q4, q5, q6⟩ := id hfe
    have e3 : s₂ = ({ (U.calling g mk a).setFrames s₂.frames with heap := s₂.heap, slotsUsed := s₂.slotsUsed } : State).setVm s₂.vm := by
      have : s₂ = ({ s₂ with vm := (U.calling g mk a).vm } : State).setVm s₂.vm := rfl
      rw [e2] at this
      exact this
    obtain ⟨c₂, i₂, len₂, hc₂, hd₂, hf₂⟩ := hend
    have hW' : U.WarmedH s₂.vm := hW₂
    have hcc : c₂ = c := by
      have h1 : s₂.code? g.method = U.code? g.method := by
        rw [State.code?_eq, State.code?_eq, hW'.alike.method?]
      exact Option.some.inj (hc₂.symm.trans (h1.trans h.code))
    subst hcc
    have hlen : len₂ = len := by rw [hdg] at hd₂; cases hd₂; rfl
    subst hlen
    have hs₂ : s₂ = (({ U with heap := s₂.heap, slotsUsed := s₂.slotsUsed } : State).setVm s₂.vm).setTop { g with pc := g.pc + len₂, stack := v.toList ++ g.stack } := by
      refine e3.trans ?_
      rw [hf₂, State.calling_eq h.top, State.setFrames_setFrames, State.setTop_of_frames _ hr', hr]
      rfl
    have hsame : U.sameButNew ({ U with heap := s₂.heap, slotsUsed := s₂.slotsUsed } : State) L mc ms := by
      refine ⟨?_, q2, q3, q4, q5, q6⟩
      obtain ⟨t, ht, -⟩ := State.frames_cons hr
      show ({ U with heap := s₂.heap, slotsUsed := s₂.slotsUsed } : State) = { U.setFrames U.frames with heap := s₂.heap, slotsUsed := s₂.slotsUsed }
      rw [State.setFrames_self ht]
    subst hg
    refine Or.inl ⟨v, ⟨(({ U with heap := s₂.heap, slotsUsed := s₂.slotsUsed } : State).setVm s₂.vm), Ls ++ L, c0 + mc, s0 + ms⟩,
      ⟨X.admits, X.cas, X.clock, X.frames, X.room, X.hears, X.method, X.code, (X.here.setHeapUsed s₂.heap s₂.slotsUsed).setVm hW'.alike, X.tail, State.WarmedH.trans X.warmed hW', X.limits, X.bytes, X.same.trans (hsame.setVm s.vm)⟩,
      ⟨g, mk, s₂, L, rfl, rfl, hqc, rfl, hL, rfl, rfl⟩, ?_⟩
    show Steps p.tables e below _ ((({ U with heap := s₂.heap, slotsUsed := s₂.slotsUsed } : State).setVm s₂.vm).setTop { g with pc := g.pc + len₂, stack := v.toList ++ g.stack })
    rw [← hs₂]
    exact hsteps
  · obtain ⟨e2, q2, q3, q4, q5, q6⟩ := id hsm
    have e3 : s₂ = ({ (U.calling g mk a).setFrames s₂.frames with heap := s₂.heap, slotsUsed := s₂.slotsUsed } : State).setVm s₂.vm := by
      have : s₂ = ({ s₂ with vm := (U.calling g mk a).vm } : State).setVm s₂.vm := rfl
      rw [e2] at this
      exact this
    have hf₂ : s₂.frames = .throwing q :: .java g :: U.frames.tail := hend
    have hW' : U.WarmedH s₂.vm := hW₂
    have hs₂ : s₂ = ((({ U with heap := s₂.heap, slotsUsed := s₂.slotsUsed } : State).setVm s₂.vm).setTop g).pushFrame (.throwing q) := by
      refine e3.trans ?_
      rw [hf₂, State.calling_eq h.top, State.setFrames_setFrames, State.pushFrame, State.frames_setTop _ hr', State.setTop_of_frames _ hr', State.setFrames_setFrames, hr]
      rfl
    have hsame : U.sameButNew ({ U with heap := s₂.heap, slotsUsed := s₂.slotsUsed } : State) L mc ms := by
      refine ⟨?_, q2, q3, q4, q5, q6⟩
      obtain ⟨t, ht, -⟩ := State.frames_cons hr
      show ({ U with heap := s₂.heap, slotsUsed := s₂.slotsUsed } : State) = { U.setFrames U.frames with heap := s₂.heap, slotsUsed := s₂.slotsUsed }
      rw [State.setFrames_self ht]
    subst hg
    refine Or.inr ⟨q, ⟨(({ U with heap := s₂.heap, slotsUsed := s₂.slotsUsed } : State).setVm s₂.vm), Ls ++ L, c0 + mc, s0 + ms⟩,
      ⟨X.admits, X.cas, X.clock, X.frames, X.room, X.hears, X.method, X.code, (X.here.setHeapUsed s₂.heap s₂.slotsUsed).setVm hW'.alike, X.tail, State.WarmedH.trans X.warmed hW', X.limits, X.bytes, X.same.trans (hsame.setVm s.vm)⟩,
      ⟨g, mk, s₂, L, E, ce, rfl, rfl, hx, hce, hcv, hcl, rfl, hL, rfl, rfl⟩, ?_⟩
    show Steps p.tables e below _ (((({ U with heap := s₂.heap, slotsUsed := s₂.slotsUsed } : State).setVm s₂.vm).setTop g).pushFrame (.throwing q))
    rw [← hs₂]
    exact hsteps
end
variable {p : Program} {l : Launch} {e : Env} {R : Room} {s : State} {m : MethodId} {args : Array Value} {below : List Frame} {meth : Method} {c : Code} {T : State} {H : Heap} {locs : List Loc} {cells slots : Nat}
theorem vx_callVX (X : Stand p l e R s m args below meth c T locs cells slots) (hexec : p.tables.exec = Jvm.exec) {own C : String} {index : Nat} {y : MethodName} {bytes : ByteArray} {maxL : Nat} {ret : Option FieldType} {hh : List (Nat × Nat × Nat × Nat)}
    (hown : s.vm.findClass own = some m.cls) (hlink : (Cond.methodLink own index y).before args s = true) (hinst : (Cond.instanceMethod y).before args s = true) (hsel : (Cond.selects C y y).before args s = true)
    (hcode : (Cond.codeWith y bytes maxL ret hh).before args s = true) (hy : y.cls ≠ "java/lang/invoke/MethodHandle" ∧ y.cls ≠ "java/lang/invoke/VarHandle")
    {W9 : Nat} {Pre : Pt → Array Value → Prop} {Post : Pt → Array Value → Option Value → Pt → Prop} {PostX : Pt → Array Value → Addr → Pt → Prop} (hK : vx_Back l R p e below s args y 3 W9 Pre Post PostX)
    {b : Addr} {cellB : Cell} (hcell : T.heap[b]? = some cellB) (hobj : cellB.vm.isStatics = false) (hcls : s.vm.findClass C = some cellB.cls)
    {g : JFrame} (hg : g.method = m) (hsize : g.locals.size = c.maxLocals) {argsL rest : List Value} (hlen : ∀ sig, parseMethodDescriptor y.desc = some sig → argsL.length = sig.parameters.length)
    (hstack : g.stack = argsL.reverse ++ .ref b :: rest) (hW : 2 * g.monitorRoom + (rest.map fun v => v.category).sum ≤ W9) (hdg : decode c.code g.pc = .ok (.invokevirtual index, 3))
    (hpre : ∀ vm₁, s.WarmedH vm₁ → Pre ⟨T.setVm vm₁, locs, cells, slots⟩ (Value.ref b :: argsL).toArray) :
    (∃ (v : Option Value) (vm₁ : Vm) (B : Pt), s.WarmedH vm₁ ∧ Stand p l e R s m args below meth c B.U B.locs B.cells B.slots ∧ Post ⟨T.setVm vm₁, locs, cells, slots⟩ (Value.ref b :: argsL).toArray v B ∧
      ∀ target, Steps p.tables e below (B.U.setTop { g with pc := g.pc + 3, stack := v.toList ++ rest }) target → Steps p.tables e below (T.setTop g) target) ∨
    (∃ (q : Addr) (vm₁ : Vm) (B : Pt), s.WarmedH vm₁ ∧ Stand p l e R s m args below meth c B.U B.locs B.cells B.slots ∧ PostX ⟨T.setVm vm₁, locs, cells, slots⟩ (Value.ref b :: argsL).toArray q B ∧
      Steps p.tables e below (T.setTop g) ((B.U.setTop { g with stack := rest }).pushFrame (.throwing q))) := by
  obtain ⟨mk, methM, hnamed, hmethM, hstM, habM⟩ := Cond.instanceMethod_spec hinst
  obtain ⟨m8, methM', cM, hn8, hmethM', -, -, -, -, -, -, hsigM⟩ := Cond.codeWith_spec hcode
  cases Option.some.inj (hn8.symm.trans hnamed)
  cases hmethM.symm.trans hmethM'
  obtain ⟨c2, r2, m2, q1, q2, q3, q4, kP, hkP, hkPi⟩ := Cond.selects_spec hsel
  cases hcls.symm.trans q1
  cases (State.methodFound?_of_named hnamed hy).symm.trans q2
  cases hnamed.symm.trans q3
  have hselP : selectMethod e.platform s.vm cellB.cls mk = .method mk := by rw [Launch.admits_selectMethod X.admits]; exact q4
  obtain ⟨vm₁, X₁, hstep₁⟩ := X.invokevirtual hexec hown hlink hnamed hmethM hstM hkP hkPi hy (a := b) (cell := cellB) hcell
    (fun z h => by rw [h] at hobj; cases hobj) hselP hmethM habM hkP hkPi (g := g) hg (argsL := argsL) (rest := rest) (hlen _ hsigM) hstack hdg
  rcases hK m meth c ⟨T.setVm vm₁, locs, cells, slots⟩ { g with stack := rest } (.invokevirtual index) mk (Value.ref b :: argsL).toArray X₁ hg hsize hdg hW (X₁.named hnamed) (hpre vm₁ X₁.warmed) with ⟨v, B, X', hpost, hsteps⟩ | ⟨q, B, X', hpost, hsteps⟩
  · exact Or.inl ⟨v, vm₁, B, X₁.warmed, X', hpost, fun target h => hstep₁ _ fun acts => by rw [doInvoke_state]; exact hsteps.trans h⟩
  · exact Or.inr ⟨q, vm₁, B, X₁.warmed, X', hpost, hstep₁ _ fun acts => by rw [doInvoke_state]; exact hsteps⟩
theorem vx_callSX (X : Stand p l e R s m args below meth c T locs cells slots) (hexec : p.tables.exec = Jvm.exec) {own : String} {index : Nat} {y : MethodName} {bytes : ByteArray} {maxL : Nat} {ret : Option FieldType} {hh : List (Nat × Nat × Nat × Nat)}
    (hown : s.vm.findClass own = some m.cls) (hlink : (Cond.methodLink own index y).before args s = true) (hstat : (Cond.static y).before args s = true) (hinit : (Cond.initialized y.cls).before args s = true)
    (hcode : (Cond.codeWith y bytes maxL ret hh).before args s = true) (hy : y.cls ≠ "java/lang/invoke/MethodHandle" ∧ y.cls ≠ "java/lang/invoke/VarHandle")
    {W9 : Nat} {Pre : Pt → Array Value → Prop} {Post : Pt → Array Value → Option Value → Pt → Prop} {PostX : Pt → Array Value → Addr → Pt → Prop} (hK : vx_Back l R p e below s args y 3 W9 Pre Post PostX)
    {g : JFrame} (hg : g.method = m) (hsize : g.locals.size = c.maxLocals) {argsL rest : List Value} (hlen : ∀ sig, parseMethodDescriptor y.desc = some sig → argsL.length = sig.parameters.length)
    (hstack : g.stack = argsL.reverse ++ rest) (hW : 2 * g.monitorRoom + (rest.map fun v => v.category).sum ≤ W9) (hdg : decode c.code g.pc = .ok (.invokestatic index, 3))
    (hpre : ∀ vm₁, s.WarmedH vm₁ → Pre ⟨T.setVm vm₁, locs, cells, slots⟩ argsL.toArray) :
    (∃ (v : Option Value) (vm₁ : Vm) (B : Pt), s.WarmedH vm₁ ∧ Stand p l e R s m args below meth c B.U B.locs B.cells B.slots ∧ Post ⟨T.setVm vm₁, locs, cells, slots⟩ argsL.toArray v B ∧
      ∀ target, Steps p.tables e below (B.U.setTop { g with pc := g.pc + 3, stack := v.toList ++ rest }) target → Steps p.tables e below (T.setTop g) target) ∨
    (∃ (q : Addr) (vm₁ : Vm) (B : Pt), s.WarmedH vm₁ ∧ Stand p l e R s m args below meth c B.U B.locs B.cells B.slots ∧ PostX ⟨T.setVm vm₁, locs, cells, slots⟩ argsL.toArray q B ∧
      Steps p.tables e below (T.setTop g) ((B.U.setTop { g with stack := rest }).pushFrame (.throwing q))) := by
  obtain ⟨mk, methM, cM, hnamed, hmethM, -, -, -, -, -, -, hsigM⟩ := Cond.codeWith_spec hcode
  have hstatic : methM.isStatic = true := Cond.static_spec hnamed hmethM hstat
  obtain ⟨kP, hkP, -⟩ := className_of_methodNamed hnamed
  have hinitP : kP.init = .initialized := Cond.initialized_spec (findClass_of_methodNamed hnamed) hkP hinit
  obtain ⟨vm₁, X₁, hstep₁⟩ := X.invokestatic hexec hown hlink hnamed hmethM hstatic hkP hinitP hy (g := g) hg (argsL := argsL) (rest := rest) (hlen _ hsigM) hstack hdg
  rcases hK m meth c ⟨T.setVm vm₁, locs, cells, slots⟩ { g with stack := rest } (.invokestatic index) mk argsL.toArray X₁ hg hsize hdg hW (X₁.named hnamed) (hpre vm₁ X₁.warmed) with ⟨v, B, X', hpost, hsteps⟩ | ⟨q, B, X', hpost, hsteps⟩
  · exact Or.inl ⟨v, vm₁, B, X₁.warmed, X', hpost, fun target h => hstep₁ _ fun acts => by rw [doInvoke_state]; exact hsteps.trans h⟩
  · exact Or.inr ⟨q, vm₁, B, X₁.warmed, X', hpost, hstep₁ _ fun acts => by rw [doInvoke_state]; exact hsteps⟩
theorem vx_callVW (X : Stand p l e R s m args below meth c T locs cells slots) (hexec : p.tables.exec = Jvm.exec) {own C : String} {index : Nat} {y : MethodName} {bytes : ByteArray} {maxL : Nat} {ret : Option FieldType} {hh : List (Nat × Nat × Nat × Nat)}
    (hown : s.vm.findClass own = some m.cls) (hlink : (Cond.methodLink own index y).before args s = true) (hinst : (Cond.instanceMethod y).before args s = true) (hsel : (Cond.selects C y y).before args s = true)
    (hcode : (Cond.codeWith y bytes maxL ret hh).before args s = true) (hy : y.cls ≠ "java/lang/invoke/MethodHandle" ∧ y.cls ≠ "java/lang/invoke/VarHandle")
    {W9 : Nat} {Pre : Pt → Array Value → Prop} {Post : Pt → Array Value → Option Value → Pt → Prop} (hK : Back l R p e below s args y 3 W9 Pre Post)
    {b : Addr} {cellB : Cell} (hcell : T.heap[b]? = some cellB) (hobj : cellB.vm.isStatics = false) (hcls : s.vm.findClass C = some cellB.cls)
    {g : JFrame} (hg : g.method = m) (hsize : g.locals.size = c.maxLocals) {argsL rest : List Value} (hlen : ∀ sig, parseMethodDescriptor y.desc = some sig → argsL.length = sig.parameters.length)
    (hstack : g.stack = argsL.reverse ++ .ref b :: rest) (hW : 2 * g.monitorRoom + (rest.map fun v => v.category).sum ≤ W9) (hdg : decode c.code g.pc = .ok (.invokevirtual index, 3))
    (hpre : ∀ vm₁, s.WarmedH vm₁ → Pre ⟨T.setVm vm₁, locs, cells, slots⟩ (Value.ref b :: argsL).toArray) :
    ∃ (v : Option Value) (vm₁ : Vm) (B : Pt), s.WarmedH vm₁ ∧ Stand p l e R s m args below meth c B.U B.locs B.cells B.slots ∧ Post ⟨T.setVm vm₁, locs, cells, slots⟩ (Value.ref b :: argsL).toArray v B ∧
      ∀ target, Steps p.tables e below (B.U.setTop { g with pc := g.pc + 3, stack := v.toList ++ rest }) target → Steps p.tables e below (T.setTop g) target := by
  obtain ⟨mk, methM, hnamed, hmethM, hstM, habM⟩ := Cond.instanceMethod_spec hinst
  obtain ⟨m8, methM', cM, hn8, hmethM', -, -, -, -, -, -, hsigM⟩ := Cond.codeWith_spec hcode
  cases Option.some.inj (hn8.symm.trans hnamed)
  cases hmethM.symm.trans hmethM'
  obtain ⟨c2, r2, m2, q1, q2, q3, q4, kP, hkP, hkPi⟩ := Cond.selects_spec hsel
  cases hcls.symm.trans q1
  cases (State.methodFound?_of_named hnamed hy).symm.trans q2
  cases hnamed.symm.trans q3
  have hselP : selectMethod e.platform s.vm cellB.cls mk = .method mk := by rw [Launch.admits_selectMethod X.admits]; exact q4
  obtain ⟨vm₁, X₁, hstep₁⟩ := X.invokevirtual hexec hown hlink hnamed hmethM hstM hkP hkPi hy (a := b) (cell := cellB) hcell
    (fun z h => by rw [h] at hobj; cases hobj) hselP hmethM habM hkP hkPi (g := g) hg (argsL := argsL) (rest := rest) (hlen _ hsigM) hstack hdg
  obtain ⟨v, B, X', hpost, hsteps⟩ := hK m meth c ⟨T.setVm vm₁, locs, cells, slots⟩ { g with stack := rest } (.invokevirtual index) mk (Value.ref b :: argsL).toArray X₁ hg hsize hdg hW (X₁.named hnamed) (hpre vm₁ X₁.warmed)
  exact ⟨v, vm₁, B, X₁.warmed, X', hpost, fun target h => hstep₁ _ fun acts => by rw [doInvoke_state]; exact hsteps.trans h⟩
abbrev vx_CVW (R : Room) (s : State) (args : Array Value) (own C : String) (index : Nat) (y : MethodName) (bytes : ByteArray) (maxL : Nat) (ret : Option FieldType) (hh : List (Nat × Nat × Nat × Nat)) (ws : List Cond) (rm : Room) (mc ms n : Nat) : Prop :=
  (rm.cells = mc ∧ rm.slots = ms ∧ rm.frames + 1 ≤ R.frames ∧ 8 + (maxL + 11) + rm.locals ≤ R.locals ∧ (∀ w ∈ ws, ∀ (a' : Array Value) (U : State), s.WarmedH U.vm → w.before a' U = true) ∧ Cond.codeWith y bytes maxL ret hh ∈ ws) ∧
  (Cond.codeWith y bytes maxL ret hh).before args s = true ∧ (Cond.initialized y.cls).before args s = true ∧ (y.cls ≠ "java/lang/invoke/MethodHandle" ∧ y.cls ≠ "java/lang/invoke/VarHandle") ∧
  (∀ sig, parseMethodDescriptor y.desc = some sig → n = sig.parameters.length) ∧ (Cond.methodLink own index y).before args s = true ∧ (Cond.instanceMethod y).before args s = true ∧ (Cond.selects C y y).before args s = true
theorem vx_cwVW {own C : String} {index maxL mc ms : Nat} {y : MethodName} {bytes : ByteArray} {ret : Option FieldType} {hh : List (Nat × Nat × Nat × Nat)} {Ts ws ws' : List Cond} {rm : Room} (n : Nat) (ht : ∀ w ∈ Ts, w.before args s = true) (hT : GoodIn Ts (wsV own index C y ws)) (hw : ws = Cond.codeWith y bytes maxL ret hh :: ws') (hrc : rm.cells = mc) (hrs : rm.slots = ms)
    (hd : y.cls = C ∧ y.cls ≠ "java/lang/invoke/MethodHandle" ∧ y.cls ≠ "java/lang/invoke/VarHandle" ∧ (parseMethodDescriptor y.desc).map (fun d => d.parameters.length) = some n) (hR : rm.frames + 1 ≤ R.frames ∧ 8 + (maxL + 11) + rm.locals ≤ R.locals) :
    vx_CVW R s args own C index y bytes maxL ret hh ws rm mc ms n := by
  obtain ⟨hC, hd⟩ := hd
  subst hC
  have ok : ∀ w ∈ wsV own index y.cls y ws, w.before args s = true := fun w h => ht w (hT w h).1
  have hG : GoodIn Ts ws := fun w h => hT w (by unfold wsV; exact List.mem_append_right _ h)
  have hc : Cond.codeWith y bytes maxL ret hh ∈ ws := by rw [hw]; exact List.mem_cons_self
  refine ⟨⟨hrc, hrs, hR.1, hR.2, pay_in ht hG, hc⟩, ht _ (hG _ hc).1, ok _ (by simp [wsV]), ⟨hd.1, hd.2.1⟩, fun sig h => ?_, ok _ (by simp [wsV]), ok _ (by simp [wsV]), ok _ (by simp [wsV])⟩
  have h2 := hd.2.2
  rw [h] at h2
  exact (Option.some.inj h2).symm
theorem vx_runVW {y : MethodName} {bytes cc : ByteArray} {maxL nL mc ms n index : Nat} {ret : Option FieldType} {hh : List (Nat × Nat × Nat × Nat)} {ws : List Cond} {rm : Room} {Pc : Array Value → State → Prop} {Qc : Array Value → State → Outcome → State → Prop} {free : Addr → Prop} {Ts : List Cond} {own C : String} {b : Addr} {As rest : List Value} {g : JFrame}
    (S : CallFix p m c cc nL s args Ts own) (hM : Met l y ws rm Pc Qc mc ms free) (cw : vx_CVW R s args own C index y bytes maxL ret hh ws rm mc ms n) (hp : PreV s H C b Pc As)
    (hg : g.method = m) (hn : As.length = n) (hsize : g.locals.size = nL) (hstack : g.stack = As.reverse ++ .ref b :: rest) (hW : 2 * g.monitorRoom + (rest.map fun v => v.category).sum ≤ 8) (hdg : decode cc g.pc = .ok (.invokevirtual index, 3)) (hf : cells + mc ≤ R.cells ∧ slots + ms ≤ R.slots) :
    va_Run p l e R s m args below meth c H locs cells slots mc ms g rest (Qc (Value.ref b :: As).toArray) free := by
  obtain ⟨⟨hrc, hrs, hfr, hlo, hws, hcw⟩, hcode, hini, hy, hlen, hl, hin, hse⟩ := cw
  have hK : Back l R p e below s args y 3 8 (PreOf R mc ms Pc) (PostOf Qc mc ms free) := va_backW (hh := hh) (bytes := bytes) (maxL := maxL) (ret := ret) hM hp.1 hrc hrs hfr hlo hws hcw (fun a' U hW => word_at hW (Or.inl (by first | rfl | simp [Cond.onTables, Cond.keeps, Cond.steady])) hini)
  obtain ⟨hx, hb, hml, ho, -⟩ := S
  obtain ⟨-, ⟨cellB, hcB, hoB, hclB⟩, hPc⟩ := hp
  intro T hT X
  obtain ⟨v, vm₁, ⟨U', l2, c2, s2⟩, hW₁, X', ⟨g', mk, t, L, e1, e2, hq, h1, hL, h2, h3⟩, st⟩ := vx_callVW X hx (C := C) (hh := hh) (bytes := bytes) (maxL := maxL) (ret := ret) ho hl hin hse hcode hy hK (by rw [hT]; exact hcB) hoB hclB hg (hsize.trans hml.symm) (argsL := As) (rest := rest) (fun sig h => hn.trans (hlen sig h)) hstack hW (by rw [hb]; exact hdg)
    (fun vm₁ hW₁ => ⟨hf.1, hf.2, hPc (T.setVm vm₁) hT hW₁⟩)
  dsimp only [Pt.U, Pt.locs, Pt.cells, Pt.slots] at X' e1 e2 h1 h2 h3 st
  subst h1; subst h2; subst h3
  exact ⟨v, (T.setVm vm₁).calling g' mk (Value.ref b :: As).toArray, t, U', L, hT, X', hL, e1, e2, hq, st⟩
section
variable {y : MethodName} {bytes cc : ByteArray} {maxL nL mc ms n index : Nat} {ret : Option FieldType} {ws : List Cond} {rm : Room} {Pc : Array Value → State → Prop} {Qc : Array Value → State → Outcome → State → Prop} {XC : String → State → State → Prop} {free : Addr → Prop} {Ts : List Cond} {own C : String} {b : Addr} {As rest : List Value} {g : JFrame}
theorem vx_runVX {hh : List (Nat × Nat × Nat × Nat)} (S : CallFix p m c cc nL s args Ts own) (hM : vx_Met l y ws rm Pc Qc XC mc ms free) (cw : vx_CVW R s args own C index y bytes maxL ret hh ws rm mc ms n) (hp : PreV s H C b Pc As)
    (hg : g.method = m) (hn : As.length = n) (hsize : g.locals.size = nL) (hstack : g.stack = As.reverse ++ .ref b :: rest) (hW : 2 * g.monitorRoom + (rest.map fun v => v.category).sum ≤ 8) (hdg : decode cc g.pc = .ok (.invokevirtual index, 3)) (hf : cells + mc ≤ R.cells ∧ slots + ms ≤ R.slots) :
    vx_Run p l e R s m args below meth c H locs cells slots mc ms g rest (Qc (Value.ref b :: As).toArray) XC free := by
  obtain ⟨⟨hrc, hrs, hfr, hlo, hws, hcw⟩, hcode, hini, hy, hlen, hl, hin, hse⟩ := cw
  have hK : vx_Back l R p e below s args y 3 8 (PreOf R mc ms Pc) (PostOf Qc mc ms free) (vx_Post XC mc ms free) := vx_backW (hh := hh) (bytes := bytes) (maxL := maxL) (ret := ret) hM hp.1 hrc hrs hfr hlo hws hcw (fun a' U hW => word_at hW (Or.inl (by first | rfl | simp [Cond.onTables, Cond.keeps, Cond.steady])) hini)
  obtain ⟨hx, hb, hml, ho, -⟩ := S
  obtain ⟨-, ⟨cellB, hcB, hoB, hclB⟩, hPc⟩ := hp
  intro T hT X
  rcases vx_callVX X hx (C := C) (hh := hh) (bytes := bytes) (maxL := maxL) (ret := ret) ho hl hin hse hcode hy hK (by rw [hT]; exact hcB) hoB hclB hg (hsize.trans hml.symm) (argsL := As) (rest := rest) (fun sig h => hn.trans (hlen sig h)) hstack hW (by rw [hb]; exact hdg)
    (fun vm₁ hW₁ => ⟨hf.1, hf.2, hPc (T.setVm vm₁) hT hW₁⟩) with ⟨v, vm₁, ⟨U', l2, c2, s2⟩, hW₁, X', ⟨g', mk, t, L, e1, e2, hq, h1, hL, h2, h3⟩, st⟩ | ⟨q, vm₁, ⟨U', l2, c2, s2⟩, hW₁, X', ⟨g', mk, t, L, E, ce, e1, e2, hq, hce, hcv, hcl, h1, hL, h2, h3⟩, st⟩
  · dsimp only [Pt.U, Pt.locs, Pt.cells, Pt.slots] at X' e1 e2 h1 h2 h3 st
    subst h1; subst h2; subst h3
    exact Or.inl ⟨v, (T.setVm vm₁).calling g' mk (Value.ref b :: As).toArray, t, U', L, hT, X', hL, e1, e2, hq, st⟩
  · dsimp only [Pt.U, Pt.locs, Pt.cells, Pt.slots] at X' e1 e2 h1 h2 h3 st hcl
    subst h1; subst h2; subst h3
    exact Or.inr ⟨q, (T.setVm vm₁).calling g' mk (Value.ref b :: As).toArray, t, U', L, E, ce, hT, X', hL, e1, e2, hq, hce, hcv, vx_cls hW₁ hcl, st⟩
theorem vx_runSX {hh : List (Nat × Nat × Nat × Nat)} (S : CallFix p m c cc nL s args Ts own) (hM : vx_Met l y ws rm Pc Qc XC mc ms free) (cw : vx_CSW R s args own index y bytes maxL ret hh ws rm mc ms n) (hp : PreS s H Pc As)
    (hg : g.method = m) (hn : As.length = n) (hsize : g.locals.size = nL) (hstack : g.stack = As.reverse ++ rest) (hW : 2 * g.monitorRoom + (rest.map fun v => v.category).sum ≤ 8) (hdg : decode cc g.pc = .ok (.invokestatic index, 3)) (hf : cells + mc ≤ R.cells ∧ slots + ms ≤ R.slots) :
    vx_Run p l e R s m args below meth c H locs cells slots mc ms g rest (Qc As.toArray) XC free := by
  obtain ⟨⟨hrc, hrs, hfr, hlo, hws, hcw⟩, hcode, hini, hy, hlen, hl, hstt⟩ := cw
  have hK : vx_Back l R p e below s args y 3 8 (PreOf R mc ms Pc) (PostOf Qc mc ms free) (vx_Post XC mc ms free) := vx_backW (hh := hh) (bytes := bytes) (maxL := maxL) (ret := ret) hM hp.1 hrc hrs hfr hlo hws hcw (fun a' U hW => word_at hW (Or.inl (by first | rfl | simp [Cond.onTables, Cond.keeps, Cond.steady])) hini)
  obtain ⟨hx, hb, hml, ho, -⟩ := S
  intro T hT X
  rcases vx_callSX X hx (hh := hh) (bytes := bytes) (maxL := maxL) (ret := ret) ho hl hstt hini hcode hy hK hg (hsize.trans hml.symm) (argsL := As) (rest := rest) (fun sig h => hn.trans (hlen sig h)) hstack hW (by rw [hb]; exact hdg)
    (fun vm₁ hW₁ => ⟨hf.1, hf.2, hp.2 (T.setVm vm₁) hT hW₁⟩) with ⟨v, vm₁, ⟨U', l2, c2, s2⟩, hW₁, X', ⟨g', mk, t, L, e1, e2, hq, h1, hL, h2, h3⟩, st⟩ | ⟨q, vm₁, ⟨U', l2, c2, s2⟩, hW₁, X', ⟨g', mk, t, L, E, ce, e1, e2, hq, hce, hcv, hcl, h1, hL, h2, h3⟩, st⟩
  · dsimp only [Pt.U, Pt.locs, Pt.cells, Pt.slots] at X' e1 e2 h1 h2 h3 st
    subst h1; subst h2; subst h3
    exact Or.inl ⟨v, (T.setVm vm₁).calling g' mk As.toArray, t, U', L, hT, X', hL, e1, e2, hq, st⟩
  · dsimp only [Pt.U, Pt.locs, Pt.cells, Pt.slots] at X' e1 e2 h1 h2 h3 st hcl
    subst h1; subst h2; subst h3
    exact Or.inr ⟨q, (T.setVm vm₁).calling g' mk As.toArray, t, U', L, E, ce, hT, X', hL, e1, e2, hq, hce, hcv, vx_cls hW₁ hcl, st⟩
end
end VXH
theorem vx_ofWH {l : Launch} {y : MethodName} {ws ws' : List Cond} {rm : Room} {Pc : Array Value → State → Prop} {Qc : Array Value → State → Outcome → State → Prop} {XC : String → State → State → Prop} {mc ms : Nat} {free : Addr → Prop} {cc : ByteArray} {maxL : Nat} {ret : Option FieldType} {hh : List (Nat × Nat × Nat × Nat)}
    (hy : plainName y.cls = true) (hw : ws = Cond.codeWith y cc maxL ret hh :: ws')
    (body : ∀ p e s m args below meth c s₁, BodyLoose p l y (headSpec ws rm) cc maxL ret e s m args below meth c s₁ → c.maxLocals = maxL → Pc args s →
      W p l e (headSpec ws rm).room s m args below meth c s.heap [] 0 0 (vx_MQ below Qc XC args s mc ms free) (entryFrame m args maxL)) : vx_Met l y ws rm Pc Qc XC mc ms free := by
  refine MetFree.of_bodyS (code := cc) (maxLocals := maxL) (ret := ret) hy ?_ ?_
  · intro args s m h hn
    obtain ⟨m9, meth, c, hn9, h1, h2, h3, h4, -, h5, h6, -⟩ := Cond.codeWith_spec (atoms_spec (ws := ws) h _ (by rw [hw]; exact List.mem_cons_self))
    cases hn.symm.trans hn9
    exact ⟨meth, c, h1, h2, h3, h4, h5, h6⟩
  · intro p e s m args below meth c s₁ B hml hP _
    have hh0 : s₁.heap = s.heap := by rw [B.state]; rfl
    obtain ⟨t, a1, o, b1, b2, b3⟩ := body p e s m args below meth c s₁ B hml hP s₁ hh0 (Stand.of_body B)
    exact ⟨t, o, a1, b1, b2, b3⟩
/-! ===== END ===== -/
end
section
def RX0 : String := "FlyTower$Bar"
def TX0 : u_T := fun k => match k with
  | 0 => ("FlyTower$Bar", "number", "I", true)
  | 1 => ("FlyTower$Bar", "isMotor", "Z", false)
  | 2 => ("FlyTower$Bar", "limit", "I", false)
  | 3 => ("FlyTower$Bar", "height", "I", false)
  | 4 => ("FlyTower$Bar", "counter", "I", false)
  | 5 => ("FlyTower$Bar", "load", "I", false)
  | 6 => ("FlyTower$Bar", "deep", "I", false)
  | 7 => ("FlyTower$Bar", "wide", "I", false)
  | 8 => ("FlyTower$Bar", "arePeople", "Z", false)
  | 9 => ("FlyTower$Bar", "isWatched", "Z", false)
  | 10 => ("FlyTower$Bar", "isBroken", "Z", false)
  | 11 => ("FlyTower$Bar", "heightsGone", "I", false)
  | _ => ("FlyTower$Bar", "heightBefore", "I", false)
abbrev cX0_init : ByteArray := prog_2_method_1_code
def yX0_init : MethodName := ⟨RX0, "<init>", "(I)V"⟩
abbrev cX0_copyFrom : ByteArray := prog_2_method_2_code
def yX0_copyFrom : MethodName := ⟨RX0, "copyFrom", "(LFlyTower$Bar;)V"⟩
abbrev cX0_difference : ByteArray := prog_2_method_3_code
def yX0_difference : MethodName := ⟨RX0, "difference", "()I"⟩
abbrev cX0_differenceWithoutSign : ByteArray := prog_2_method_4_code
def yX0_differenceWithoutSign : MethodName := ⟨RX0, "differenceWithoutSign", "()I"⟩
abbrev cX0_touchesAt : ByteArray := prog_2_method_5_code
def yX0_touchesAt : MethodName := ⟨RX0, "touchesAt", "(ILFlyTower$Bar;)Z"⟩
abbrev cX0_goTo : ByteArray := prog_2_method_6_code
def yX0_goTo : MethodName := ⟨RX0, "goTo", "(I)V"⟩
def RX1 : String := "FlyTower$Cue"
def TX1 : u_T := fun k => match k with
  | 0 => ("FlyTower$Cue", "moves", "[LFlyTower$Move;", true)
  | 1 => ("FlyTower$Cue", "moveCount", "I", false)
  | _ => ("FlyTower$Cue", "follows", "I", false)
abbrev cX1_init : ByteArray := prog_3_method_1_code
def yX1_init : MethodName := ⟨RX1, "<init>", "()V"⟩
abbrev cX1_copyFrom : ByteArray := prog_3_method_2_code
def yX1_copyFrom : MethodName := ⟨RX1, "copyFrom", "(LFlyTower$Cue;)V"⟩
abbrev cX1_moveAt : ByteArray := prog_3_method_3_code
def yX1_moveAt : MethodName := ⟨RX1, "moveAt", "(I)LFlyTower$Move;"⟩
abbrev cX1_hasMoveOf : ByteArray := prog_3_method_4_code
def yX1_hasMoveOf : MethodName := ⟨RX1, "hasMoveOf", "(I)Z"⟩
abbrev cX1_openAll : ByteArray := prog_3_method_5_code
def yX1_openAll : MethodName := ⟨RX1, "openAll", "()V"⟩
abbrev cX1_openMoves : ByteArray := prog_3_method_6_code
def yX1_openMoves : MethodName := ⟨RX1, "openMoves", "()I"⟩
def RX2 : String := "FlyTower$Move"
def TX2 : u_T := fun k => match k with
  | 0 => ("FlyTower$Move", "bar", "I", false)
  | 1 => ("FlyTower$Move", "target", "I", false)
  | 2 => ("FlyTower$Move", "speed", "I", false)
  | 3 => ("FlyTower$Move", "delay", "I", false)
  | 4 => ("FlyTower$Move", "state", "I", false)
  | _ => ("FlyTower$Move", "late", "I", false)
abbrev cX2_init : ByteArray := prog_4_method_1_code
def yX2_init : MethodName := ⟨RX2, "<init>", "()V"⟩
abbrev cX2_copyFrom : ByteArray := prog_4_method_2_code
def yX2_copyFrom : MethodName := ⟨RX2, "copyFrom", "(LFlyTower$Move;)V"⟩
def RX3 : String := "FlyTower$Piece"
def TX3 : u_T := fun k => match k with
  | 0 => ("FlyTower$Piece", "weight", "I", false)
  | 1 => ("FlyTower$Piece", "drop", "I", false)
  | 2 => ("FlyTower$Piece", "thickness", "I", false)
  | _ => ("FlyTower$Piece", "bar", "I", false)
abbrev cX3_init : ByteArray := prog_5_method_1_code
def yX3_init : MethodName := ⟨RX3, "<init>", "()V"⟩
def RX4 : String := "FlyTower$Rig"
def TX4 : u_T := fun k => match k with
  | 0 => ("FlyTower$Rig", "bars", "[LFlyTower$Bar;", true)
  | 1 => ("FlyTower$Rig", "barCount", "I", false)
  | 2 => ("FlyTower$Rig", "cues", "[LFlyTower$Cue;", true)
  | 3 => ("FlyTower$Rig", "cueCount", "I", false)
  | 4 => ("FlyTower$Rig", "crew", "I", false)
  | 5 => ("FlyTower$Rig", "freeOperators", "I", false)
  | 6 => ("FlyTower$Rig", "now", "I", false)
  | 7 => ("FlyTower$Rig", "running", "I", false)
  | 8 => ("FlyTower$Rig", "isStopped", "Z", false)
  | 9 => ("FlyTower$Rig", "elapsed", "I", false)
  | 10 => ("FlyTower$Rig", "done", "I", false)
  | 11 => ("FlyTower$Rig", "over", "I", false)
  | 12 => ("FlyTower$Rig", "refused", "I", false)
  | 13 => ("FlyTower$Rig", "near", "I", false)
  | 14 => ("FlyTower$Rig", "crashes", "I", false)
  | 15 => ("FlyTower$Rig", "hurt", "I", false)
  | 16 => ("FlyTower$Rig", "late", "I", false)
  | _ => ("FlyTower$Rig", "keptBack", "I", false)
abbrev cX4_init : ByteArray := prog_6_method_1_code
def yX4_init : MethodName := ⟨RX4, "<init>", "()V"⟩
abbrev cX4_copyFrom : ByteArray := prog_6_method_2_code
def yX4_copyFrom : MethodName := ⟨RX4, "copyFrom", "(LFlyTower$Rig;)V"⟩
abbrev cX4_barAt : ByteArray := prog_6_method_3_code
def yX4_barAt : MethodName := ⟨RX4, "barAt", "(I)LFlyTower$Bar;"⟩
abbrev cX4_cueAt : ByteArray := prog_6_method_4_code
def yX4_cueAt : MethodName := ⟨RX4, "cueAt", "(I)LFlyTower$Cue;"⟩
abbrev cX4_mendBrakes : ByteArray := prog_6_method_5_code
def yX4_mendBrakes : MethodName := ⟨RX4, "mendBrakes", "()V"⟩
abbrev cX4_brokenBrakes : ByteArray := prog_6_method_6_code
def yX4_brokenBrakes : MethodName := ⟨RX4, "brokenBrakes", "()I"⟩
abbrev cX4_begin : ByteArray := prog_6_method_7_code
def yX4_begin : MethodName := ⟨RX4, "begin", "(I)V"⟩
abbrev cX4_rest : ByteArray := prog_6_method_8_code
def yX4_rest : MethodName := ⟨RX4, "rest", "()V"⟩
abbrev cX4_openMoves : ByteArray := prog_6_method_9_code
def yX4_openMoves : MethodName := ⟨RX4, "openMoves", "()I"⟩
abbrev cX4_playSecond : ByteArray := prog_6_method_10_code
def yX4_playSecond : MethodName := ⟨RX4, "playSecond", "()V"⟩
abbrev cX4_playMoves : ByteArray := prog_6_method_11_code
def yX4_playMoves : MethodName := ⟨RX4, "playMoves", "(LFlyTower$Cue;)V"⟩
abbrev cX4_mayGo : ByteArray := prog_6_method_12_code
def yX4_mayGo : MethodName := ⟨RX4, "mayGo", "(LFlyTower$Move;LFlyTower$Bar;)Z"⟩
abbrev cX4_goNearer : ByteArray := prog_6_method_13_code
def yX4_goNearer : MethodName := ⟨RX4, "goNearer", "(LFlyTower$Move;LFlyTower$Bar;)V"⟩
abbrev cX4_touchesAnew : ByteArray := prog_6_method_14_code
def yX4_touchesAnew : MethodName := ⟨RX4, "touchesAnew", "(LFlyTower$Bar;I)Z"⟩
abbrev cX4_runAway : ByteArray := prog_6_method_15_code
def yX4_runAway : MethodName := ⟨RX4, "runAway", "(LFlyTower$Bar;)V"⟩
abbrev cX4_judgeRun : ByteArray := prog_6_method_16_code
def yX4_judgeRun : MethodName := ⟨RX4, "judgeRun", "(LFlyTower$Bar;I)V"⟩
abbrev cX4_finish : ByteArray := prog_6_method_17_code
def yX4_finish : MethodName := ⟨RX4, "finish", "(I)V"⟩
def RX5 : String := "FlyTower"
def TX5 : u_T := fun k => match k with
  | 0 => ("FlyTower", "rig", "LFlyTower$Rig;", true)
  | 1 => ("FlyTower", "rehearsal", "LFlyTower$Rig;", true)
  | 2 => ("FlyTower", "pieceRow", "[LFlyTower$Piece;", true)
  | 3 => ("FlyTower", "pieceCount", "I", false)
  | _ => ("FlyTower", "places", "[I", true)
abbrev cX5_init : ByteArray := prog_1_method_1_code
def yX5_init : MethodName := ⟨RX5, "<init>", "()V"⟩
abbrev cX5_bar : ByteArray := prog_1_method_2_code
def yX5_bar : MethodName := ⟨RX5, "bar", "(ZI)I"⟩
abbrev cX5_piece : ByteArray := prog_1_method_3_code
def yX5_piece : MethodName := ⟨RX5, "piece", "(III)I"⟩
abbrev cX5_cue : ByteArray := prog_1_method_4_code
def yX5_cue : MethodName := ⟨RX5, "cue", "(I)I"⟩
abbrev cX5_move : ByteArray := prog_1_method_5_code
def yX5_move : MethodName := ⟨RX5, "move", "(IIIII)I"⟩
abbrev cX5_crew : ByteArray := prog_1_method_6_code
def yX5_crew : MethodName := ⟨RX5, "crew", "(I)I"⟩
abbrev cX5_below : ByteArray := prog_1_method_7_code
def yX5_below : MethodName := ⟨RX5, "below", "(IZZ)Z"⟩
abbrev cX5_hang : ByteArray := prog_1_method_8_code
def yX5_hang : MethodName := ⟨RX5, "hang", "(II)I"⟩
abbrev cX5_take : ByteArray := prog_1_method_9_code
def yX5_take : MethodName := ⟨RX5, "take", "(I)I"⟩
abbrev cX5_counter : ByteArray := prog_1_method_10_code
def yX5_counter : MethodName := ⟨RX5, "counter", "(II)I"⟩
abbrev cX5_go : ByteArray := prog_1_method_11_code
def yX5_go : MethodName := ⟨RX5, "go", "(I)I"⟩
abbrev cX5_stop : ByteArray := prog_1_method_12_code
def yX5_stop : MethodName := ⟨RX5, "stop", "(Z)Z"⟩
abbrev cX5_end : ByteArray := prog_1_method_13_code
def yX5_end : MethodName := ⟨RX5, "end", "()I"⟩
abbrev cX5_brake : ByteArray := prog_1_method_14_code
def yX5_brake : MethodName := ⟨RX5, "brake", "(IZ)Z"⟩
abbrev cX5_pass : ByteArray := prog_1_method_15_code
def yX5_pass : MethodName := ⟨RX5, "pass", "(I)I"⟩
abbrev cX5_ofBar : ByteArray := prog_1_method_16_code
def yX5_ofBar : MethodName := ⟨RX5, "ofBar", "(II)I"⟩
abbrev cX5_ofPiece : ByteArray := prog_1_method_17_code
def yX5_ofPiece : MethodName := ⟨RX5, "ofPiece", "(II)I"⟩
abbrev cX5_ofMove : ByteArray := prog_1_method_18_code
def yX5_ofMove : MethodName := ⟨RX5, "ofMove", "(III)I"⟩
abbrev cX5_touch : ByteArray := prog_1_method_19_code
def yX5_touch : MethodName := ⟨RX5, "touch", "(II)Z"⟩
abbrev cX5_many : ByteArray := prog_1_method_20_code
def yX5_many : MethodName := ⟨RX5, "many", "(I)I"⟩
abbrev cX5_meanHeight : ByteArray := prog_1_method_21_code
def yX5_meanHeight : MethodName := ⟨RX5, "meanHeight", "()D"⟩
abbrev cX5_secondsFor : ByteArray := prog_1_method_22_code
def yX5_secondsFor : MethodName := ⟨RX5, "secondsFor", "(I)I"⟩
abbrev cX5_stopsAt : ByteArray := prog_1_method_23_code
def yX5_stopsAt : MethodName := ⟨RX5, "stopsAt", "(I)I"⟩
abbrev cX5_wouldHurt : ByteArray := prog_1_method_24_code
def yX5_wouldHurt : MethodName := ⟨RX5, "wouldHurt", "(I)I"⟩
abbrev cX5_fits : ByteArray := prog_1_method_25_code
def yX5_fits : MethodName := ⟨RX5, "fits", "(I)I"⟩
abbrev cX5_digest : ByteArray := prog_1_method_26_code
def yX5_digest : MethodName := ⟨RX5, "digest", "()J"⟩
abbrev cX5_digestOfMoves : ByteArray := prog_1_method_27_code
def yX5_digestOfMoves : MethodName := ⟨RX5, "digestOfMoves", "(JI)J"⟩
abbrev cX5_pieceAt : ByteArray := prog_1_method_28_code
def yX5_pieceAt : MethodName := ⟨RX5, "pieceAt", "(I)LFlyTower$Piece;"⟩
abbrev cX5_refuseUnlessRunning : ByteArray := prog_1_method_29_code
def yX5_refuseUnlessRunning : MethodName := ⟨RX5, "refuseUnlessRunning", "()V"⟩
abbrev cX5_refuseUnlessAtRest : ByteArray := prog_1_method_30_code
def yX5_refuseUnlessAtRest : MethodName := ⟨RX5, "refuseUnlessAtRest", "(LFlyTower$Bar;)V"⟩
abbrev cX5_weigh : ByteArray := prog_1_method_31_code
def yX5_weigh : MethodName := ⟨RX5, "weigh", "(LFlyTower$Bar;)V"⟩
abbrev cX5_rehearse : ByteArray := prog_1_method_32_code
def yX5_rehearse : MethodName := ⟨RX5, "rehearse", "(I)I"⟩
abbrev cX5_smallestPlace : ByteArray := prog_1_method_33_code
def yX5_smallestPlace : MethodName := ⟨RX5, "smallestPlace", "(II)I"⟩
abbrev cX5_isBehindFormer : ByteArray := prog_1_method_34_code
def yX5_isBehindFormer : MethodName := ⟨RX5, "isBehindFormer", "(III)Z"⟩
abbrev cX5_isIn : ByteArray := prog_1_method_35_code
def yX5_isIn : MethodName := ⟨RX5, "isIn", "(II)Z"⟩
def RX6 : String := "FlyTowerModel$Tower"
def TX6 : u_T := fun k => match k with
  | _ => ("", "", "", false)
def RX7 : String := "FlyTowerModel"
def TX7 : u_T := fun k => match k with
  | _ => ("", "", "", false)
def RJx145de : String := "java/io/Serializable"
def TJx145de : u_T := fun k => match k with
  | _ => ("", "", "", false)
def RJxb160c : String := "java/lang/Comparable"
def TJxb160c : u_T := fun k => match k with
  | _ => ("", "", "", false)
def RJxe99ae : String := "java/lang/Double"
def TJxe99ae : u_T := fun k => match k with
  | _ => ("", "", "", false)
def RJ6 : String := "java/lang/Integer"
def TJ6 : u_T := fun k => match k with
  | _ => ("", "", "", false)
abbrev cJ6_bitCount_0f7a4 : ByteArray := prog_15_method_49_code
def yJ6_bitCount_0f7a4 : MethodName := ⟨RJ6, "bitCount", "(I)I"⟩
def RJ9 : String := "java/lang/Math"
def TJ9 : u_T := fun k => match k with
  | _ => ("", "", "", false)
abbrev cJ9_abs_0f7a4 : ByteArray := prog_16_method_59_code
def yJ9_abs_0f7a4 : MethodName := ⟨RJ9, "abs", "(I)I"⟩
abbrev cJ9_abs_294c1 : ByteArray := prog_16_method_64_code
def yJ9_abs_294c1 : MethodName := ⟨RJ9, "abs", "(D)D"⟩
abbrev cJ9_max_7cf53 : ByteArray := prog_16_method_65_code
def yJ9_max_7cf53 : MethodName := ⟨RJ9, "max", "(II)I"⟩
abbrev cJ9_min_7cf53 : ByteArray := prog_16_method_69_code
def yJ9_min_7cf53 : MethodName := ⟨RJ9, "min", "(II)I"⟩
def RJxd2413 : String := "java/lang/Number"
def TJxd2413 : u_T := fun k => match k with
  | _ => ("", "", "", false)
def RJ0 : String := "java/lang/String"
def TJ0 : u_T := fun k => match k with
  | _ => ("", "", "", false)
def RJxfd54e : String := "java/lang/constant/Constable"
def TJxfd54e : u_T := fun k => match k with
  | _ => ("", "", "", false)
def RJx3cf43 : String := "java/lang/constant/ConstantDesc"
def TJx3cf43 : u_T := fun k => match k with
  | _ => ("", "", "", false)
def RL : String := "FlyTowerLaw"
abbrev cL_below : ByteArray := method_2_code
def yL_below : MethodName := ⟨RL, "below", "(II)I"⟩
abbrev cL_cell : ByteArray := method_3_code
def yL_cell : MethodName := ⟨RL, "cell", "([II)I"⟩
abbrev cL_law : ByteArray := code
def yL_law : MethodName := ⟨RL, "law", "([I)Z"⟩
abbrev cL_moves : ByteArray := method_5_code
def yL_moves : MethodName := ⟨RL, "moves", "(LFlyTower;I)I"⟩
abbrev cL_move : ByteArray := method_6_code
def yL_move : MethodName := ⟨RL, "move", "(LFlyTower;IIIII)I"⟩
abbrev cL_second : ByteArray := method_7_code
def yL_second : MethodName := ⟨RL, "second", "(LFlyTower;I)I"⟩
abbrev cL_isSo : ByteArray := method_8_code
def yL_isSo : MethodName := ⟨RL, "isSo", "(LFlyTower;I)Z"⟩
abbrev vwCl : List vw_C := [(RX0, TX0, 13), (RX1, TX1, 3), (RX2, TX2, 6), (RX3, TX3, 4), (RX4, TX4, 18), (RX5, TX5, 5)]
end
section
theorem g_lookup_mem {β : Type} : ∀ {l : List (Nat × β)} {k : Nat} {v : β}, l.lookup k = some v → (k, v) ∈ l
  | [], _, _, h => by cases h
  | (a, b) :: l, k, v, h => by
    rw [List.lookup_cons] at h
    cases hk : (k == a) with
    | true =>
      rw [hk] at h
      cases h
      rw [eq_of_beq hk]
      exact List.mem_cons_self
    | false =>
      rw [hk] at h
      exact List.mem_cons_of_mem _ (g_lookup_mem h)
theorem g_getD_ge {α : Type} {L : List α} {c : Nat} {d : α} (h : L.length ≤ c) : L.getD c d = d := by
  rw [List.getD_eq_getElem?_getD, List.getElem?_eq_none h]
  rfl
theorem g_getD_mem {α : Type} {L : List α} {c : Nat} {d : α} (h : c < L.length) : L.getD c d ∈ L := by
  rw [List.getD_eq_getElem?_getD, List.getElem?_eq_getElem h]
  exact List.getElem_mem h
theorem g_look {β : Type} {L : List (List (Nat × β))} {P : Nat → Nat → β → Bool} (hv : (List.range L.length).all (fun c => (L.getD c []).all (fun e => P c e.1 e.2)) = true) {c ix : Nat} {v : β} (h : (L.getD c []).lookup ix = some v) : P c ix v = true := by
  rcases Nat.lt_or_ge c L.length with hc | hc
  · have h1 := List.all_eq_true.mp hv c (List.mem_range.mpr hc)
    exact List.all_eq_true.mp h1 (ix, v) (g_lookup_mem h)
  · rw [g_getD_ge hc] at h
    cases h
/-- an instruction's own length (0: a switch, or none of those used) -/
def glen : Instr → Nat
  | .aaload | .aastore | .aconst_null | .aload_n _ | .areturn | .arraylength | .astore_n _ | .athrow => 1
  | .aload _ | .astore _ | .bipush _ | .newarray _ | .iload _ | .istore _ | .lload _ | .lstore _ | .dload _ | .dstore _ | .ldc _ => 2
  | .anewarray _ | .checkcast _ | .getfield _ | .putfield _ | .getstatic _ | .goto _ | .if_acmp .. | .if_icmp .. | .ifCond .. | .ifnull _ | .ifnonnull _ | .iinc .. | .invokestatic _ | .invokespecial _ | .invokevirtual _ | .new _ | .sipush _ | .ldc_w _ | .ldc2_w _ => 3
  | .dup | .dup_x1 | .dup2 | .pop | .iadd | .isub | .imul | .idiv | .irem | .ineg | .iand | .ior | .ixor | .ishl | .ishr | .iushr | .ladd | .land | .lmul | .lcmp | .i2l | .i2d | .ddiv | .dmul | .dsub | .dcmp _ | .dconst _ | .iconst _ | .lconst _ => 1
  | .iaload | .iastore | .laload | .lastore | .iload_n _ | .istore_n _ | .lload_n _ | .lstore_n _ | .dload_n _ | .dstore_n _ | .ireturn | .lreturn | .dreturn | .return_ => 1
  | .invokeinterface .. => 5
  | _ => 0
end
section
def g_okc (cc : ByteArray) (ch : List (Nat × Instr × Nat)) : Bool := ch.all fun e => decide (decode cc e.1 = .ok (e.2.1, e.2.2)) && (glen e.2.1 == e.2.2 || glen e.2.1 == 0)
def gi_0_0 : List (Nat × Instr × Nat) := [(0, .aload_n 0, 1), (1, .invokespecial 1, 3), (4, .aload_n 0, 1), (5, .iconst 1, 1), (6, .putfield 7, 3), (9, .aload_n 0, 1), (10, .iload_n 1, 1), (11, .putfield 13, 3), (14, .return_, 1)]
set_option maxRecDepth 100000 in
theorem gv_0_0 : g_okc cX0_init gi_0_0 = true := by decide +kernel
def gi_0 : List (List (Nat × Instr × Nat)) := [gi_0_0]
theorem gv_0 : ∀ ch ∈ gi_0, g_okc cX0_init ch = true := List.forall_mem_cons.mpr ⟨gv_0_0, fun _ h => absurd h List.not_mem_nil⟩
def gi_1_0 : List (Nat × Instr × Nat) := [(0, .aload_n 0, 1), (1, .invokespecial 3, 3), (4, .aload_n 0, 1), (5, .iconst (-1), 1), (6, .putfield 9, 3), (9, .return_, 1)]
set_option maxRecDepth 100000 in
theorem gv_1_0 : g_okc cX2_init gi_1_0 = true := by decide +kernel
def gi_1 : List (List (Nat × Instr × Nat)) := [gi_1_0]
theorem gv_1 : ∀ ch ∈ gi_1, g_okc cX2_init ch = true := List.forall_mem_cons.mpr ⟨gv_1_0, fun _ h => absurd h List.not_mem_nil⟩
def gi_2_0 : List (Nat × Instr × Nat) := [(0, .aload_n 0, 1), (1, .invokespecial 3, 3), (4, .aload_n 0, 1), (5, .iconst (-1), 1), (6, .putfield 9, 3), (9, .aload_n 0, 1), (10, .bipush 6, 2), (12, .anewarray 15, 3), (15, .putfield 17, 3), (18, .iconst 0, 1), (19, .istore_n 1, 1), (20, .iload_n 1, 1), (21, .bipush 6, 2), (23, .if_icmp .ge 22, 3), (26, .aload_n 0, 1), (27, .getfield 17, 3), (30, .iload_n 1, 1), (31, .new 15, 3)]
set_option maxRecDepth 100000 in
theorem gv_2_0 : g_okc cX1_init gi_2_0 = true := by decide +kernel
def gi_2_1 : List (Nat × Instr × Nat) := [(34, .dup, 1), (35, .invokespecial 21, 3), (38, .aastore, 1), (39, .iinc 1 1, 3), (42, .goto (-22), 3), (45, .return_, 1)]
set_option maxRecDepth 100000 in
theorem gv_2_1 : g_okc cX1_init gi_2_1 = true := by decide +kernel
def gi_2 : List (List (Nat × Instr × Nat)) := [gi_2_0, gi_2_1]
theorem gv_2 : ∀ ch ∈ gi_2, g_okc cX1_init ch = true := List.forall_mem_cons.mpr ⟨gv_2_0, List.forall_mem_cons.mpr ⟨gv_2_1, fun _ h => absurd h List.not_mem_nil⟩⟩
def gi_3_0 : List (Nat × Instr × Nat) := [(0, .aload_n 0, 1), (1, .invokespecial 3, 3), (4, .aload_n 0, 1), (5, .iconst 2, 1), (6, .putfield 9, 3), (9, .aload_n 0, 1), (10, .iconst (-1), 1), (11, .putfield 15, 3), (14, .aload_n 0, 1), (15, .iconst (-1), 1), (16, .putfield 18, 3), (19, .aload_n 0, 1), (20, .bipush 8, 2), (22, .anewarray 21, 3), (25, .putfield 23, 3), (28, .iconst 0, 1), (29, .istore_n 1, 1), (30, .iload_n 1, 1), (31, .bipush 8, 2)]
set_option maxRecDepth 100000 in
theorem gv_3_0 : g_okc cX4_init gi_3_0 = true := by decide +kernel
def gi_3_1 : List (Nat × Instr × Nat) := [(33, .if_icmp .ge 23, 3), (36, .aload_n 0, 1), (37, .getfield 23, 3), (40, .iload_n 1, 1), (41, .new 21, 3), (44, .dup, 1), (45, .iload_n 1, 1), (46, .invokespecial 27, 3), (49, .aastore, 1), (50, .iinc 1 1, 3), (53, .goto (-23), 3), (56, .aload_n 0, 1), (57, .bipush 6, 2), (59, .anewarray 30, 3), (62, .putfield 32, 3)]
set_option maxRecDepth 100000 in
theorem gv_3_1 : g_okc cX4_init gi_3_1 = true := by decide +kernel
def gi_3_2 : List (Nat × Instr × Nat) := [(65, .iconst 0, 1), (66, .istore_n 1, 1), (67, .iload_n 1, 1), (68, .bipush 6, 2), (70, .if_icmp .ge 22, 3), (73, .aload_n 0, 1), (74, .getfield 32, 3), (77, .iload_n 1, 1), (78, .new 30, 3), (81, .dup, 1), (82, .invokespecial 36, 3), (85, .aastore, 1), (86, .iinc 1 1, 3), (89, .goto (-22), 3), (92, .return_, 1)]
set_option maxRecDepth 100000 in
theorem gv_3_2 : g_okc cX4_init gi_3_2 = true := by decide +kernel
def gi_3 : List (List (Nat × Instr × Nat)) := [gi_3_0, gi_3_1, gi_3_2]
theorem gv_3 : ∀ ch ∈ gi_3, g_okc cX4_init ch = true := List.forall_mem_cons.mpr ⟨gv_3_0, List.forall_mem_cons.mpr ⟨gv_3_1, List.forall_mem_cons.mpr ⟨gv_3_2, fun _ h => absurd h List.not_mem_nil⟩⟩⟩
def gi_4_0 : List (Nat × Instr × Nat) := [(0, .aload_n 0, 1), (1, .invokespecial 3, 3), (4, .aload_n 0, 1), (5, .iconst (-1), 1), (6, .putfield 9, 3), (9, .return_, 1)]
set_option maxRecDepth 100000 in
theorem gv_4_0 : g_okc cX3_init gi_4_0 = true := by decide +kernel
def gi_4 : List (List (Nat × Instr × Nat)) := [gi_4_0]
theorem gv_4 : ∀ ch ∈ gi_4, g_okc cX3_init ch = true := List.forall_mem_cons.mpr ⟨gv_4_0, fun _ h => absurd h List.not_mem_nil⟩
def gi_5_0 : List (Nat × Instr × Nat) := [(0, .aload_n 0, 1), (1, .invokespecial 1, 3), (4, .aload_n 0, 1), (5, .new 7, 3), (8, .dup, 1), (9, .invokespecial 9, 3), (12, .putfield 10, 3), (15, .aload_n 0, 1), (16, .new 7, 3), (19, .dup, 1), (20, .invokespecial 9, 3), (23, .putfield 16, 3), (26, .aload_n 0, 1), (27, .bipush 10, 2), (29, .anewarray 19, 3)]
set_option maxRecDepth 100000 in
theorem gv_5_0 : g_okc cX5_init gi_5_0 = true := by decide +kernel
def gi_5_1 : List (Nat × Instr × Nat) := [(32, .putfield 21, 3), (35, .iconst 0, 1), (36, .istore_n 1, 1), (37, .iload_n 1, 1), (38, .bipush 10, 2), (40, .if_icmp .ge 22, 3), (43, .aload_n 0, 1), (44, .getfield 21, 3), (47, .iload_n 1, 1), (48, .new 19, 3), (51, .dup, 1), (52, .invokespecial 25, 3), (55, .aastore, 1), (56, .iinc 1 1, 3), (59, .goto (-22), 3), (62, .aload_n 0, 1), (63, .bipush 10, 2)]
set_option maxRecDepth 100000 in
theorem gv_5_1 : g_okc cX5_init gi_5_1 = true := by decide +kernel
def gi_5_2 : List (Nat × Instr × Nat) := [(65, .newarray .int, 2), (67, .putfield 26, 3), (70, .return_, 1)]
set_option maxRecDepth 100000 in
theorem gv_5_2 : g_okc cX5_init gi_5_2 = true := by decide +kernel
def gi_5 : List (List (Nat × Instr × Nat)) := [gi_5_0, gi_5_1, gi_5_2]
theorem gv_5 : ∀ ch ∈ gi_5, g_okc cX5_init ch = true := List.forall_mem_cons.mpr ⟨gv_5_0, List.forall_mem_cons.mpr ⟨gv_5_1, List.forall_mem_cons.mpr ⟨gv_5_2, fun _ h => absurd h List.not_mem_nil⟩⟩⟩
def gi_6_0 : List (Nat × Instr × Nat) := [(0, .iload_n 1, 1), (1, .aload_n 0, 1), (2, .arraylength, 1), (3, .if_icmp .ge 9, 3), (6, .aload_n 0, 1), (7, .iload_n 1, 1), (8, .iaload, 1), (9, .goto 9, 3), (12, .ldc 8, 2), (14, .iload_n 1, 1), (15, .iconst 3, 1), (16, .iadd, 1), (17, .imul, 1), (18, .ireturn, 1)]
set_option maxRecDepth 100000 in
theorem gv_6_0 : g_okc cL_cell gi_6_0 = true := by decide +kernel
def gi_6 : List (List (Nat × Instr × Nat)) := [gi_6_0]
theorem gv_6 : ∀ ch ∈ gi_6, g_okc cL_cell ch = true := List.forall_mem_cons.mpr ⟨gv_6_0, fun _ h => absurd h List.not_mem_nil⟩
def gi_7_0 : List (Nat × Instr × Nat) := [(0, .iload_n 0, 1), (1, .ldc 7, 2), (3, .iand, 1), (4, .iload_n 1, 1), (5, .irem, 1), (6, .ireturn, 1)]
set_option maxRecDepth 100000 in
theorem gv_7_0 : g_okc cL_below gi_7_0 = true := by decide +kernel
def gi_7 : List (List (Nat × Instr × Nat)) := [gi_7_0]
theorem gv_7 : ∀ ch ∈ gi_7, g_okc cL_below ch = true := List.forall_mem_cons.mpr ⟨gv_7_0, fun _ h => absurd h List.not_mem_nil⟩
def gi_8_0 : List (Nat × Instr × Nat) := [(0, .iload_n 2, 1), (1, .bipush 10, 2), (3, .if_icmp .lt 10, 3), (6, .iload_n 2, 1), (7, .sipush 300, 3), (10, .if_icmp .le 13, 3), (13, .new 30, 3), (16, .dup, 1), (17, .ldc 32, 2), (19, .invokespecial 34, 3), (22, .athrow, 1), (23, .aload_n 0, 1), (24, .getfield 10, 3), (27, .getfield 37, 3), (30, .bipush 8, 2)]
set_option maxRecDepth 100000 in
theorem gv_8_0 : g_okc cX5_bar gi_8_0 = true := by decide +kernel
def gi_8_1 : List (Nat × Instr × Nat) := [(32, .if_icmp .lt 13, 3), (35, .new 41, 3), (38, .dup, 1), (39, .ldc 43, 2), (41, .invokespecial 45, 3), (44, .athrow, 1), (45, .aload_n 0, 1), (46, .getfield 10, 3), (49, .getfield 46, 3), (52, .aload_n 0, 1), (53, .getfield 10, 3), (56, .getfield 37, 3), (59, .aaload, 1), (60, .astore_n 3, 1), (61, .aload_n 3, 1), (62, .iload_n 1, 1), (63, .putfield 50, 3)]
set_option maxRecDepth 100000 in
theorem gv_8_1 : g_okc cX5_bar gi_8_1 = true := by decide +kernel
def gi_8_2 : List (Nat × Instr × Nat) := [(66, .aload_n 3, 1), (67, .iload_n 2, 1), (68, .putfield 56, 3), (71, .aload_n 0, 1), (72, .getfield 10, 3), (75, .dup, 1), (76, .getfield 37, 3), (79, .iconst 1, 1), (80, .iadd, 1), (81, .putfield 37, 3), (84, .aload_n 3, 1), (85, .getfield 59, 3), (88, .ireturn, 1)]
set_option maxRecDepth 100000 in
theorem gv_8_2 : g_okc cX5_bar gi_8_2 = true := by decide +kernel
def gi_8 : List (List (Nat × Instr × Nat)) := [gi_8_0, gi_8_1, gi_8_2]
theorem gv_8 : ∀ ch ∈ gi_8, g_okc cX5_bar ch = true := List.forall_mem_cons.mpr ⟨gv_8_0, List.forall_mem_cons.mpr ⟨gv_8_1, List.forall_mem_cons.mpr ⟨gv_8_2, fun _ h => absurd h List.not_mem_nil⟩⟩⟩
def gi_9_0 : List (Nat × Instr × Nat) := [(0, .iload_n 1, 1), (1, .iconst 1, 1), (2, .if_icmp .lt 9, 3), (5, .iload_n 1, 1), (6, .bipush 90, 2), (8, .if_icmp .le 13, 3), (11, .new 30, 3), (14, .dup, 1), (15, .ldc 62, 2), (17, .invokespecial 34, 3), (20, .athrow, 1), (21, .iload_n 2, 1), (22, .ifCond .lt 9, 3), (25, .iload_n 2, 1), (26, .bipush 60, 2), (28, .if_icmp .le 13, 3), (31, .new 30, 3)]
set_option maxRecDepth 100000 in
theorem gv_9_0 : g_okc cX5_piece gi_9_0 = true := by decide +kernel
def gi_9_1 : List (Nat × Instr × Nat) := [(34, .dup, 1), (35, .ldc 64, 2), (37, .invokespecial 34, 3), (40, .athrow, 1), (41, .iload_n 3, 1), (42, .ifCond .lt 8, 3), (45, .iload_n 3, 1), (46, .iconst 2, 1), (47, .if_icmp .le 13, 3), (50, .new 30, 3), (53, .dup, 1), (54, .ldc 66, 2), (56, .invokespecial 34, 3), (59, .athrow, 1), (60, .aload_n 0, 1), (61, .getfield 68, 3)]
set_option maxRecDepth 100000 in
theorem gv_9_1 : g_okc cX5_piece gi_9_1 = true := by decide +kernel
def gi_9_2 : List (Nat × Instr × Nat) := [(64, .bipush 10, 2), (66, .if_icmp .lt 13, 3), (69, .new 41, 3), (72, .dup, 1), (73, .ldc 71, 2), (75, .invokespecial 45, 3), (78, .athrow, 1), (79, .aload_n 0, 1), (80, .getfield 21, 3), (83, .aload_n 0, 1), (84, .getfield 68, 3), (87, .aaload, 1), (88, .astore 4, 2), (90, .aload 4, 2), (92, .iload_n 1, 1), (93, .putfield 73, 3)]
set_option maxRecDepth 100000 in
theorem gv_9_2 : g_okc cX5_piece gi_9_2 = true := by decide +kernel
def gi_9_3 : List (Nat × Instr × Nat) := [(96, .aload 4, 2), (98, .iload_n 2, 1), (99, .putfield 76, 3), (102, .aload 4, 2), (104, .iload_n 3, 1), (105, .putfield 79, 3), (108, .aload_n 0, 1), (109, .dup, 1), (110, .getfield 68, 3), (113, .dup_x1, 1), (114, .iconst 1, 1), (115, .iadd, 1), (116, .putfield 68, 3), (119, .ireturn, 1)]
set_option maxRecDepth 100000 in
theorem gv_9_3 : g_okc cX5_piece gi_9_3 = true := by decide +kernel
def gi_9 : List (List (Nat × Instr × Nat)) := [gi_9_0, gi_9_1, gi_9_2, gi_9_3]
theorem gv_9 : ∀ ch ∈ gi_9, g_okc cX5_piece ch = true := List.forall_mem_cons.mpr ⟨gv_9_0, List.forall_mem_cons.mpr ⟨gv_9_1, List.forall_mem_cons.mpr ⟨gv_9_2, List.forall_mem_cons.mpr ⟨gv_9_3, fun _ h => absurd h List.not_mem_nil⟩⟩⟩⟩
def gi_10_0 : List (Nat × Instr × Nat) := [(0, .iload_n 1, 1), (1, .iconst (-1), 1), (2, .if_icmp .lt 9, 3), (5, .iload_n 1, 1), (6, .bipush 6, 2), (8, .if_icmp .lt 13, 3), (11, .new 30, 3), (14, .dup, 1), (15, .ldc 82, 2), (17, .invokespecial 34, 3), (20, .athrow, 1), (21, .aload_n 0, 1), (22, .getfield 10, 3), (25, .getfield 84, 3), (28, .bipush 6, 2), (30, .if_icmp .lt 13, 3)]
set_option maxRecDepth 100000 in
theorem gv_10_0 : g_okc cX5_cue gi_10_0 = true := by decide +kernel
def gi_10_1 : List (Nat × Instr × Nat) := [(33, .new 41, 3), (36, .dup, 1), (37, .ldc 87, 2), (39, .invokespecial 45, 3), (42, .athrow, 1), (43, .aload_n 0, 1), (44, .getfield 10, 3), (47, .getfield 89, 3), (50, .aload_n 0, 1), (51, .getfield 10, 3), (54, .getfield 84, 3), (57, .aaload, 1), (58, .iload_n 1, 1), (59, .putfield 93, 3), (62, .aload_n 0, 1), (63, .getfield 10, 3)]
set_option maxRecDepth 100000 in
theorem gv_10_1 : g_okc cX5_cue gi_10_1 = true := by decide +kernel
def gi_10_2 : List (Nat × Instr × Nat) := [(66, .dup, 1), (67, .getfield 84, 3), (70, .dup_x1, 1), (71, .iconst 1, 1), (72, .iadd, 1), (73, .putfield 84, 3), (76, .ireturn, 1)]
set_option maxRecDepth 100000 in
theorem gv_10_2 : g_okc cX5_cue gi_10_2 = true := by decide +kernel
def gi_10 : List (List (Nat × Instr × Nat)) := [gi_10_0, gi_10_1, gi_10_2]
theorem gv_10 : ∀ ch ∈ gi_10, g_okc cX5_cue ch = true := List.forall_mem_cons.mpr ⟨gv_10_0, List.forall_mem_cons.mpr ⟨gv_10_1, List.forall_mem_cons.mpr ⟨gv_10_2, fun _ h => absurd h List.not_mem_nil⟩⟩⟩
def gi_11_0 : List (Nat × Instr × Nat) := [(0, .iload_n 1, 1), (1, .ifCond .lt 11, 3), (4, .iload_n 1, 1), (5, .aload_n 0, 1), (6, .getfield 44, 3), (9, .if_icmp .lt 13, 3), (12, .new 84, 3), (15, .dup, 1), (16, .ldc 91, 2), (18, .invokespecial 88, 3), (21, .athrow, 1), (22, .aload_n 0, 1), (23, .getfield 32, 3), (26, .iload_n 1, 1), (27, .aaload, 1), (28, .areturn, 1)]
set_option maxRecDepth 100000 in
theorem gv_11_0 : g_okc cX4_cueAt gi_11_0 = true := by decide +kernel
def gi_11 : List (List (Nat × Instr × Nat)) := [gi_11_0]
theorem gv_11 : ∀ ch ∈ gi_11, g_okc cX4_cueAt ch = true := List.forall_mem_cons.mpr ⟨gv_11_0, fun _ h => absurd h List.not_mem_nil⟩
def gi_12_0 : List (Nat × Instr × Nat) := [(0, .iconst 0, 1), (1, .istore_n 1, 1), (2, .iconst 0, 1), (3, .istore_n 2, 1), (4, .iload_n 2, 1), (5, .aload_n 0, 1), (6, .getfield 22, 3), (9, .if_icmp .ge 24, 3), (12, .aload_n 0, 1), (13, .getfield 17, 3), (16, .iload_n 2, 1), (17, .aaload, 1), (18, .getfield 39, 3), (21, .ifCond .ne 6, 3), (24, .iinc 1 1, 3), (27, .iinc 2 1, 3), (30, .goto (-26), 3)]
set_option maxRecDepth 100000 in
theorem gv_12_0 : g_okc cX1_openMoves gi_12_0 = true := by decide +kernel
def gi_12_1 : List (Nat × Instr × Nat) := [(33, .iload_n 1, 1), (34, .ireturn, 1)]
set_option maxRecDepth 100000 in
theorem gv_12_1 : g_okc cX1_openMoves gi_12_1 = true := by decide +kernel
def gi_12 : List (List (Nat × Instr × Nat)) := [gi_12_0, gi_12_1]
theorem gv_12 : ∀ ch ∈ gi_12, g_okc cX1_openMoves ch = true := List.forall_mem_cons.mpr ⟨gv_12_0, List.forall_mem_cons.mpr ⟨gv_12_1, fun _ h => absurd h List.not_mem_nil⟩⟩
def gi_13_0 : List (Nat × Instr × Nat) := [(0, .aload_n 0, 1), (1, .getfield 15, 3), (4, .iconst (-1), 1), (5, .if_icmp .ne 7, 3), (8, .iconst 0, 1), (9, .goto 14, 3), (12, .aload_n 0, 1), (13, .aload_n 0, 1), (14, .getfield 15, 3), (17, .invokevirtual 96, 3), (20, .invokevirtual 103, 3), (23, .ireturn, 1)]
set_option maxRecDepth 100000 in
theorem gv_13_0 : g_okc cX4_openMoves gi_13_0 = true := by decide +kernel
def gi_13 : List (List (Nat × Instr × Nat)) := [gi_13_0]
theorem gv_13 : ∀ ch ∈ gi_13, g_okc cX4_openMoves ch = true := List.forall_mem_cons.mpr ⟨gv_13_0, fun _ h => absurd h List.not_mem_nil⟩
def gi_14_0 : List (Nat × Instr × Nat) := [(0, .iconst 0, 1), (1, .istore_n 1, 1), (2, .iconst 0, 1), (3, .istore_n 2, 1), (4, .iload_n 2, 1), (5, .aload_n 0, 1), (6, .getfield 37, 3), (9, .if_icmp .ge 27, 3), (12, .aload_n 0, 1), (13, .getfield 23, 3), (16, .iload_n 2, 1), (17, .aaload, 1), (18, .getfield 93, 3), (21, .ifCond .eq 9, 3), (24, .iload_n 1, 1), (25, .iconst 1, 1), (26, .iload_n 2, 1), (27, .ishl, 1), (28, .ior, 1), (29, .istore_n 1, 1), (30, .iinc 2 1, 3)]
set_option maxRecDepth 100000 in
theorem gv_14_0 : g_okc cX4_brokenBrakes gi_14_0 = true := by decide +kernel
def gi_14_1 : List (Nat × Instr × Nat) := [(33, .goto (-29), 3), (36, .iload_n 1, 1), (37, .ireturn, 1)]
set_option maxRecDepth 100000 in
theorem gv_14_1 : g_okc cX4_brokenBrakes gi_14_1 = true := by decide +kernel
def gi_14 : List (List (Nat × Instr × Nat)) := [gi_14_0, gi_14_1]
theorem gv_14 : ∀ ch ∈ gi_14, g_okc cX4_brokenBrakes ch = true := List.forall_mem_cons.mpr ⟨gv_14_0, List.forall_mem_cons.mpr ⟨gv_14_1, fun _ h => absurd h List.not_mem_nil⟩⟩
def gi_15_0 : List (Nat × Instr × Nat) := [(0, .iload_n 1, 1), (1, .tableswitch 212 0 15 #[79, 87, 95, 100, 108, 116, 124, 140, 148, 156, 164, 172, 180, 188, 196, 204], 79)]
set_option maxRecDepth 100000 in
theorem gv_15_0 : g_okc cX5_many gi_15_0 = true := by decide +kernel
def gi_15_1 : List (Nat × Instr × Nat) := []
set_option maxRecDepth 100000 in
theorem gv_15_1 : g_okc cX5_many gi_15_1 = true := by decide +kernel
def gi_15_2 : List (Nat × Instr × Nat) := [(80, .aload_n 0, 1), (81, .getfield 10, 3), (84, .getfield 212, 3), (87, .ireturn, 1), (88, .aload_n 0, 1), (89, .getfield 10, 3), (92, .getfield 37, 3), (95, .ireturn, 1)]
set_option maxRecDepth 100000 in
theorem gv_15_2 : g_okc cX5_many gi_15_2 = true := by decide +kernel
def gi_15_3 : List (Nat × Instr × Nat) := [(96, .aload_n 0, 1), (97, .getfield 68, 3), (100, .ireturn, 1), (101, .aload_n 0, 1), (102, .getfield 10, 3), (105, .getfield 84, 3), (108, .ireturn, 1), (109, .aload_n 0, 1), (110, .getfield 10, 3), (113, .getfield 148, 3), (116, .ireturn, 1), (117, .aload_n 0, 1), (118, .getfield 10, 3), (121, .getfield 112, 3), (124, .ireturn, 1), (125, .aload_n 0, 1), (126, .getfield 10, 3)]
set_option maxRecDepth 100000 in
theorem gv_15_3 : g_okc cX5_many gi_15_3 = true := by decide +kernel
def gi_15_4 : List (Nat × Instr × Nat) := [(129, .getfield 198, 3), (132, .ifCond .eq 7, 3), (135, .iconst 1, 1), (136, .goto 4, 3), (139, .iconst 0, 1), (140, .ireturn, 1), (141, .aload_n 0, 1), (142, .getfield 10, 3), (145, .getfield 255, 3), (148, .ireturn, 1), (149, .aload_n 0, 1), (150, .getfield 10, 3), (153, .invokevirtual 201, 3), (156, .ireturn, 1), (157, .aload_n 0, 1), (158, .getfield 10, 3)]
set_option maxRecDepth 100000 in
theorem gv_15_4 : g_okc cX5_many gi_15_4 = true := by decide +kernel
def gi_15_5 : List (Nat × Instr × Nat) := [(161, .getfield 258, 3), (164, .ireturn, 1), (165, .aload_n 0, 1), (166, .getfield 10, 3), (169, .getfield 261, 3), (172, .ireturn, 1), (173, .aload_n 0, 1), (174, .getfield 10, 3), (177, .getfield 264, 3), (180, .ireturn, 1), (181, .aload_n 0, 1), (182, .getfield 10, 3), (185, .getfield 267, 3), (188, .ireturn, 1), (189, .aload_n 0, 1), (190, .getfield 10, 3)]
set_option maxRecDepth 100000 in
theorem gv_15_5 : g_okc cX5_many gi_15_5 = true := by decide +kernel
def gi_15_6 : List (Nat × Instr × Nat) := [(193, .getfield 270, 3), (196, .ireturn, 1), (197, .aload_n 0, 1), (198, .getfield 10, 3), (201, .getfield 273, 3), (204, .ireturn, 1), (205, .aload_n 0, 1), (206, .getfield 10, 3), (209, .invokevirtual 274, 3), (212, .ireturn, 1), (213, .new 30, 3), (216, .dup, 1), (217, .ldc_w 277, 3), (220, .invokespecial 34, 3), (223, .athrow, 1)]
set_option maxRecDepth 100000 in
theorem gv_15_6 : g_okc cX5_many gi_15_6 = true := by decide +kernel
def gi_15 : List (List (Nat × Instr × Nat)) := [gi_15_0, gi_15_1, gi_15_2, gi_15_3, gi_15_4, gi_15_5, gi_15_6]
theorem gv_15 : ∀ ch ∈ gi_15, g_okc cX5_many ch = true := List.forall_mem_cons.mpr ⟨gv_15_0, List.forall_mem_cons.mpr ⟨gv_15_1, List.forall_mem_cons.mpr ⟨gv_15_2, List.forall_mem_cons.mpr ⟨gv_15_3, List.forall_mem_cons.mpr ⟨gv_15_4, List.forall_mem_cons.mpr ⟨gv_15_5, List.forall_mem_cons.mpr ⟨gv_15_6, fun _ h => absurd h List.not_mem_nil⟩⟩⟩⟩⟩⟩⟩
def gi_16_0 : List (Nat × Instr × Nat) := [(0, .iload_n 1, 1), (1, .ifCond .lt 11, 3), (4, .iload_n 1, 1), (5, .aload_n 0, 1), (6, .getfield 37, 3), (9, .if_icmp .lt 13, 3), (12, .new 84, 3), (15, .dup, 1), (16, .ldc 86, 2), (18, .invokespecial 88, 3), (21, .athrow, 1), (22, .aload_n 0, 1), (23, .getfield 23, 3), (26, .iload_n 1, 1), (27, .aaload, 1), (28, .areturn, 1)]
set_option maxRecDepth 100000 in
theorem gv_16_0 : g_okc cX4_barAt gi_16_0 = true := by decide +kernel
def gi_16 : List (List (Nat × Instr × Nat)) := [gi_16_0]
theorem gv_16 : ∀ ch ∈ gi_16, g_okc cX4_barAt ch = true := List.forall_mem_cons.mpr ⟨gv_16_0, fun _ h => absurd h List.not_mem_nil⟩
def gi_17_0 : List (Nat × Instr × Nat) := [(0, .aload_n 0, 1), (1, .getfield 17, 3), (4, .ifCond .eq 7, 3), (7, .iconst 0, 1), (8, .goto 12, 3), (11, .aload_n 0, 1), (12, .getfield 29, 3), (15, .aload_n 0, 1), (16, .getfield 26, 3), (19, .isub, 1), (20, .ireturn, 1)]
set_option maxRecDepth 100000 in
theorem gv_17_0 : g_okc cX0_difference gi_17_0 = true := by decide +kernel
def gi_17 : List (List (Nat × Instr × Nat)) := [gi_17_0]
theorem gv_17 : ∀ ch ∈ gi_17, g_okc cX0_difference ch = true := List.forall_mem_cons.mpr ⟨gv_17_0, fun _ h => absurd h List.not_mem_nil⟩
def gi_18_0 : List (Nat × Instr × Nat) := [(0, .aload_n 0, 1), (1, .getfield 10, 3), (4, .iload_n 1, 1), (5, .invokevirtual 102, 3), (8, .astore_n 3, 1), (9, .iload_n 2, 1), (10, .tableswitch 154 0 11 #[62, 75, 80, 85, 90, 95, 100, 105, 110, 123, 136, 149], 62)]
set_option maxRecDepth 100000 in
theorem gv_18_0 : g_okc cX5_ofBar gi_18_0 = true := by decide +kernel
def gi_18_1 : List (Nat × Instr × Nat) := []
set_option maxRecDepth 100000 in
theorem gv_18_1 : g_okc cX5_ofBar gi_18_1 = true := by decide +kernel
def gi_18_2 : List (Nat × Instr × Nat) := [(72, .aload_n 3, 1), (73, .getfield 50, 3), (76, .ifCond .eq 7, 3), (79, .iconst 1, 1), (80, .goto 4, 3), (83, .iconst 0, 1), (84, .ireturn, 1), (85, .aload_n 3, 1), (86, .getfield 56, 3), (89, .ireturn, 1), (90, .aload_n 3, 1), (91, .getfield 223, 3), (94, .ireturn, 1), (95, .aload_n 3, 1)]
set_option maxRecDepth 100000 in
theorem gv_18_2 : g_okc cX5_ofBar gi_18_2 = true := by decide +kernel
def gi_18_3 : List (Nat × Instr × Nat) := [(96, .getfield 182, 3), (99, .ireturn, 1), (100, .aload_n 3, 1), (101, .getfield 168, 3), (104, .ireturn, 1), (105, .aload_n 3, 1), (106, .getfield 226, 3), (109, .ireturn, 1), (110, .aload_n 3, 1), (111, .getfield 229, 3), (114, .ireturn, 1), (115, .aload_n 3, 1), (116, .invokevirtual 185, 3), (119, .ireturn, 1), (120, .aload_n 3, 1), (121, .getfield 151, 3), (124, .ifCond .eq 7, 3), (127, .iconst 1, 1)]
set_option maxRecDepth 100000 in
theorem gv_18_3 : g_okc cX5_ofBar gi_18_3 = true := by decide +kernel
def gi_18_4 : List (Nat × Instr × Nat) := [(128, .goto 4, 3), (131, .iconst 0, 1), (132, .ireturn, 1), (133, .aload_n 3, 1), (134, .getfield 154, 3), (137, .ifCond .eq 7, 3), (140, .iconst 1, 1), (141, .goto 4, 3), (144, .iconst 0, 1), (145, .ireturn, 1), (146, .aload_n 3, 1), (147, .getfield 207, 3), (150, .ifCond .eq 7, 3), (153, .iconst 1, 1), (154, .goto 4, 3), (157, .iconst 0, 1), (158, .ireturn, 1), (159, .aload_n 3, 1)]
set_option maxRecDepth 100000 in
theorem gv_18_4 : g_okc cX5_ofBar gi_18_4 = true := by decide +kernel
def gi_18_5 : List (Nat × Instr × Nat) := [(160, .getfield 232, 3), (163, .ireturn, 1), (164, .new 30, 3), (167, .dup, 1), (168, .ldc 235, 2), (170, .invokespecial 34, 3), (173, .athrow, 1)]
set_option maxRecDepth 100000 in
theorem gv_18_5 : g_okc cX5_ofBar gi_18_5 = true := by decide +kernel
def gi_18 : List (List (Nat × Instr × Nat)) := [gi_18_0, gi_18_1, gi_18_2, gi_18_3, gi_18_4, gi_18_5]
theorem gv_18 : ∀ ch ∈ gi_18, g_okc cX5_ofBar ch = true := List.forall_mem_cons.mpr ⟨gv_18_0, List.forall_mem_cons.mpr ⟨gv_18_1, List.forall_mem_cons.mpr ⟨gv_18_2, List.forall_mem_cons.mpr ⟨gv_18_3, List.forall_mem_cons.mpr ⟨gv_18_4, List.forall_mem_cons.mpr ⟨gv_18_5, fun _ h => absurd h List.not_mem_nil⟩⟩⟩⟩⟩⟩
def gi_19_0 : List (Nat × Instr × Nat) := [(0, .iload_n 1, 1), (1, .ifCond .lt 11, 3), (4, .iload_n 1, 1), (5, .aload_n 0, 1), (6, .getfield 68, 3), (9, .if_icmp .lt 14, 3), (12, .new 329, 3), (15, .dup, 1), (16, .ldc_w 331, 3), (19, .invokespecial 333, 3), (22, .athrow, 1), (23, .aload_n 0, 1), (24, .getfield 21, 3), (27, .iload_n 1, 1), (28, .aaload, 1), (29, .areturn, 1)]
set_option maxRecDepth 100000 in
theorem gv_19_0 : g_okc cX5_pieceAt gi_19_0 = true := by decide +kernel
def gi_19 : List (List (Nat × Instr × Nat)) := [gi_19_0]
theorem gv_19 : ∀ ch ∈ gi_19, g_okc cX5_pieceAt ch = true := List.forall_mem_cons.mpr ⟨gv_19_0, fun _ h => absurd h List.not_mem_nil⟩
def gi_20_0 : List (Nat × Instr × Nat) := [(0, .aload_n 0, 1), (1, .iload_n 1, 1), (2, .invokevirtual 157, 3), (5, .astore_n 3, 1), (6, .iload_n 2, 1), (7, .tableswitch 49 0 3 #[29, 34, 39, 44], 29)]
set_option maxRecDepth 100000 in
theorem gv_20_0 : g_okc cX5_ofPiece gi_20_0 = true := by decide +kernel
def gi_20_1 : List (Nat × Instr × Nat) := [(36, .aload_n 3, 1), (37, .getfield 73, 3), (40, .ireturn, 1), (41, .aload_n 3, 1), (42, .getfield 76, 3), (45, .ireturn, 1), (46, .aload_n 3, 1), (47, .getfield 79, 3), (50, .ireturn, 1), (51, .aload_n 3, 1), (52, .getfield 161, 3), (55, .ireturn, 1), (56, .new 30, 3), (59, .dup, 1), (60, .ldc 237, 2), (62, .invokespecial 34, 3)]
set_option maxRecDepth 100000 in
theorem gv_20_1 : g_okc cX5_ofPiece gi_20_1 = true := by decide +kernel
def gi_20_2 : List (Nat × Instr × Nat) := [(65, .athrow, 1)]
set_option maxRecDepth 100000 in
theorem gv_20_2 : g_okc cX5_ofPiece gi_20_2 = true := by decide +kernel
def gi_20 : List (List (Nat × Instr × Nat)) := [gi_20_0, gi_20_1, gi_20_2]
theorem gv_20 : ∀ ch ∈ gi_20, g_okc cX5_ofPiece ch = true := List.forall_mem_cons.mpr ⟨gv_20_0, List.forall_mem_cons.mpr ⟨gv_20_1, List.forall_mem_cons.mpr ⟨gv_20_2, fun _ h => absurd h List.not_mem_nil⟩⟩⟩
def gi_21_0 : List (Nat × Instr × Nat) := [(0, .aload_n 0, 1), (1, .getfield 10, 3), (4, .getfield 112, 3), (7, .iconst (-1), 1), (8, .if_icmp .eq 13, 3), (11, .new 41, 3), (14, .dup, 1), (15, .ldc 189, 2), (17, .invokespecial 45, 3), (20, .athrow, 1), (21, .aload_n 1, 1), (22, .getfield 223, 3), (25, .ifCond .le 14, 3), (28, .new 41, 3), (31, .dup, 1)]
set_option maxRecDepth 100000 in
theorem gv_21_0 : g_okc cX5_refuseUnlessAtRest gi_21_0 = true := by decide +kernel
def gi_21_1 : List (Nat × Instr × Nat) := [(32, .ldc_w 336, 3), (35, .invokespecial 45, 3), (38, .athrow, 1), (39, .return_, 1)]
set_option maxRecDepth 100000 in
theorem gv_21_1 : g_okc cX5_refuseUnlessAtRest gi_21_1 = true := by decide +kernel
def gi_21 : List (List (Nat × Instr × Nat)) := [gi_21_0, gi_21_1]
theorem gv_21 : ∀ ch ∈ gi_21, g_okc cX5_refuseUnlessAtRest ch = true := List.forall_mem_cons.mpr ⟨gv_21_0, List.forall_mem_cons.mpr ⟨gv_21_1, fun _ h => absurd h List.not_mem_nil⟩⟩
def gi_22_0 : List (Nat × Instr × Nat) := [(0, .aload_n 1, 1), (1, .iconst 0, 1), (2, .putfield 168, 3), (5, .aload_n 1, 1), (6, .iconst 0, 1), (7, .putfield 226, 3), (10, .aload_n 1, 1), (11, .iconst 0, 1), (12, .putfield 229, 3), (15, .iconst 0, 1), (16, .istore_n 2, 1), (17, .iload_n 2, 1), (18, .aload_n 0, 1), (19, .getfield 68, 3), (22, .if_icmp .ge 70, 3), (25, .aload_n 0, 1), (26, .getfield 21, 3), (29, .iload_n 2, 1), (30, .aaload, 1), (31, .astore_n 3, 1)]
set_option maxRecDepth 100000 in
theorem gv_22_0 : g_okc cX5_weigh gi_22_0 = true := by decide +kernel
def gi_22_1 : List (Nat × Instr × Nat) := [(32, .aload_n 3, 1), (33, .getfield 161, 3), (36, .aload_n 1, 1), (37, .getfield 59, 3), (40, .if_icmp .ne 46, 3), (43, .aload_n 1, 1), (44, .dup, 1), (45, .getfield 168, 3), (48, .aload_n 3, 1), (49, .getfield 73, 3), (52, .iadd, 1), (53, .putfield 168, 3), (56, .aload_n 1, 1), (57, .aload_n 1, 1), (58, .getfield 226, 3), (61, .aload_n 3, 1), (62, .getfield 76, 3)]
set_option maxRecDepth 100000 in
theorem gv_22_1 : g_okc cX5_weigh gi_22_1 = true := by decide +kernel
def gi_22_2 : List (Nat × Instr × Nat) := [(65, .invokestatic 338, 3), (68, .putfield 226, 3), (71, .aload_n 1, 1), (72, .aload_n 1, 1), (73, .getfield 229, 3), (76, .aload_n 3, 1), (77, .getfield 79, 3), (80, .invokestatic 338, 3), (83, .putfield 229, 3), (86, .iinc 2 1, 3), (89, .goto (-72), 3), (92, .return_, 1)]
set_option maxRecDepth 100000 in
theorem gv_22_2 : g_okc cX5_weigh gi_22_2 = true := by decide +kernel
def gi_22 : List (List (Nat × Instr × Nat)) := [gi_22_0, gi_22_1, gi_22_2]
theorem gv_22 : ∀ ch ∈ gi_22, g_okc cX5_weigh ch = true := List.forall_mem_cons.mpr ⟨gv_22_0, List.forall_mem_cons.mpr ⟨gv_22_1, List.forall_mem_cons.mpr ⟨gv_22_2, fun _ h => absurd h List.not_mem_nil⟩⟩⟩
def gi_23_0 : List (Nat × Instr × Nat) := [(0, .aload_n 0, 1), (1, .iload_n 1, 1), (2, .invokevirtual 157, 3), (5, .astore_n 3, 1), (6, .aload_n 0, 1), (7, .getfield 10, 3), (10, .iload_n 2, 1), (11, .invokevirtual 102, 3), (14, .astore 4, 2), (16, .aload_n 3, 1), (17, .getfield 161, 3), (20, .iconst (-1), 1), (21, .if_icmp .eq 13, 3), (24, .new 41, 3), (27, .dup, 1), (28, .ldc 162, 2), (30, .invokespecial 45, 3)]
set_option maxRecDepth 100000 in
theorem gv_23_0 : g_okc cX5_hang gi_23_0 = true := by decide +kernel
def gi_23_1 : List (Nat × Instr × Nat) := [(33, .athrow, 1), (34, .aload_n 0, 1), (35, .aload 4, 2), (37, .invokevirtual 164, 3), (40, .aload 4, 2), (42, .getfield 168, 3), (45, .aload_n 3, 1), (46, .getfield 73, 3), (49, .iadd, 1), (50, .aload 4, 2), (52, .getfield 56, 3), (55, .if_icmp .le 13, 3), (58, .new 41, 3), (61, .dup, 1), (62, .ldc 171, 2)]
set_option maxRecDepth 100000 in
theorem gv_23_1 : g_okc cX5_hang gi_23_1 = true := by decide +kernel
def gi_23_2 : List (Nat × Instr × Nat) := [(64, .invokespecial 45, 3), (67, .athrow, 1), (68, .aload_n 3, 1), (69, .aload 4, 2), (71, .getfield 59, 3), (74, .putfield 161, 3), (77, .aload_n 0, 1), (78, .aload 4, 2), (80, .invokevirtual 173, 3), (83, .aload 4, 2), (85, .getfield 168, 3), (88, .ireturn, 1)]
set_option maxRecDepth 100000 in
theorem gv_23_2 : g_okc cX5_hang gi_23_2 = true := by decide +kernel
def gi_23 : List (List (Nat × Instr × Nat)) := [gi_23_0, gi_23_1, gi_23_2]
theorem gv_23 : ∀ ch ∈ gi_23, g_okc cX5_hang ch = true := List.forall_mem_cons.mpr ⟨gv_23_0, List.forall_mem_cons.mpr ⟨gv_23_1, List.forall_mem_cons.mpr ⟨gv_23_2, fun _ h => absurd h List.not_mem_nil⟩⟩⟩
def gi_24_0 : List (Nat × Instr × Nat) := [(0, .aload_n 0, 1), (1, .iload_n 1, 1), (2, .invokevirtual 157, 3), (5, .astore_n 2, 1), (6, .aload_n 2, 1), (7, .getfield 161, 3), (10, .iconst (-1), 1), (11, .if_icmp .ne 13, 3), (14, .new 41, 3), (17, .dup, 1), (18, .ldc 176, 2), (20, .invokespecial 45, 3), (23, .athrow, 1), (24, .aload_n 0, 1), (25, .getfield 10, 3), (28, .aload_n 2, 1), (29, .getfield 161, 3)]
set_option maxRecDepth 100000 in
theorem gv_24_0 : g_okc cX5_take gi_24_0 = true := by decide +kernel
def gi_24_1 : List (Nat × Instr × Nat) := [(32, .invokevirtual 102, 3), (35, .astore_n 3, 1), (36, .aload_n 0, 1), (37, .aload_n 3, 1), (38, .invokevirtual 164, 3), (41, .aload_n 2, 1), (42, .iconst (-1), 1), (43, .putfield 161, 3), (46, .aload_n 0, 1), (47, .aload_n 3, 1), (48, .invokevirtual 173, 3), (51, .aload_n 3, 1), (52, .getfield 59, 3), (55, .ireturn, 1)]
set_option maxRecDepth 100000 in
theorem gv_24_1 : g_okc cX5_take gi_24_1 = true := by decide +kernel
def gi_24 : List (List (Nat × Instr × Nat)) := [gi_24_0, gi_24_1]
theorem gv_24 : ∀ ch ∈ gi_24, g_okc cX5_take ch = true := List.forall_mem_cons.mpr ⟨gv_24_0, List.forall_mem_cons.mpr ⟨gv_24_1, fun _ h => absurd h List.not_mem_nil⟩⟩
def gi_25_0 : List (Nat × Instr × Nat) := [(0, .aload_n 0, 1), (1, .getfield 10, 3), (4, .iload_n 1, 1), (5, .invokevirtual 102, 3), (8, .astore_n 3, 1), (9, .iload_n 2, 1), (10, .ifCond .lt 10, 3), (13, .iload_n 2, 1), (14, .sipush 300, 3), (17, .if_icmp .le 13, 3), (20, .new 30, 3), (23, .dup, 1), (24, .ldc 178, 2), (26, .invokespecial 34, 3), (29, .athrow, 1), (30, .aload_n 3, 1), (31, .getfield 50, 3)]
set_option maxRecDepth 100000 in
theorem gv_25_0 : g_okc cX5_counter gi_25_0 = true := by decide +kernel
def gi_25_1 : List (Nat × Instr × Nat) := [(34, .ifCond .eq 13, 3), (37, .new 41, 3), (40, .dup, 1), (41, .ldc 180, 2), (43, .invokespecial 45, 3), (46, .athrow, 1), (47, .aload_n 0, 1), (48, .aload_n 3, 1), (49, .invokevirtual 164, 3), (52, .aload_n 3, 1), (53, .iload_n 2, 1), (54, .putfield 182, 3), (57, .aload_n 3, 1), (58, .invokevirtual 185, 3), (61, .ireturn, 1)]
set_option maxRecDepth 100000 in
theorem gv_25_1 : g_okc cX5_counter gi_25_1 = true := by decide +kernel
def gi_25 : List (List (Nat × Instr × Nat)) := [gi_25_0, gi_25_1]
theorem gv_25 : ∀ ch ∈ gi_25, g_okc cX5_counter ch = true := List.forall_mem_cons.mpr ⟨gv_25_0, List.forall_mem_cons.mpr ⟨gv_25_1, fun _ h => absurd h List.not_mem_nil⟩⟩
def gi_26_0 : List (Nat × Instr × Nat) := [(0, .iload_n 1, 1), (1, .ifCond .lt 11, 3), (4, .iload_n 1, 1), (5, .aload_n 0, 1), (6, .getfield 22, 3), (9, .if_icmp .lt 13, 3), (12, .new 29, 3), (15, .dup, 1), (16, .ldc 31, 2), (18, .invokespecial 33, 3), (21, .athrow, 1), (22, .aload_n 0, 1), (23, .getfield 17, 3), (26, .iload_n 1, 1), (27, .aaload, 1), (28, .areturn, 1)]
set_option maxRecDepth 100000 in
theorem gv_26_0 : g_okc cX1_moveAt gi_26_0 = true := by decide +kernel
def gi_26 : List (List (Nat × Instr × Nat)) := [gi_26_0]
theorem gv_26 : ∀ ch ∈ gi_26, g_okc cX1_moveAt ch = true := List.forall_mem_cons.mpr ⟨gv_26_0, fun _ h => absurd h List.not_mem_nil⟩
def gi_27_0 : List (Nat × Instr × Nat) := [(0, .aload_n 0, 1), (1, .getfield 10, 3), (4, .iload_n 1, 1), (5, .invokevirtual 98, 3), (8, .iload_n 2, 1), (9, .invokevirtual 239, 3), (12, .astore 4, 2), (14, .iload_n 3, 1), (15, .tableswitch 73 0 5 #[37, 43, 49, 55, 61, 67], 37)]
set_option maxRecDepth 100000 in
theorem gv_27_0 : g_okc cX5_ofMove gi_27_0 = true := by decide +kernel
def gi_27_1 : List (Nat × Instr × Nat) := [(52, .aload 4, 2), (54, .getfield 132, 3), (57, .ireturn, 1), (58, .aload 4, 2), (60, .getfield 137, 3), (63, .ireturn, 1)]
set_option maxRecDepth 100000 in
theorem gv_27_1 : g_okc cX5_ofMove gi_27_1 = true := by decide +kernel
def gi_27_2 : List (Nat × Instr × Nat) := [(64, .aload 4, 2), (66, .getfield 140, 3), (69, .ireturn, 1), (70, .aload 4, 2), (72, .getfield 143, 3), (75, .ireturn, 1), (76, .aload 4, 2), (78, .getfield 243, 3), (81, .ireturn, 1), (82, .aload 4, 2), (84, .getfield 246, 3), (87, .ireturn, 1), (88, .new 30, 3), (91, .dup, 1), (92, .ldc 249, 2), (94, .invokespecial 34, 3)]
set_option maxRecDepth 100000 in
theorem gv_27_2 : g_okc cX5_ofMove gi_27_2 = true := by decide +kernel
def gi_27_3 : List (Nat × Instr × Nat) := [(97, .athrow, 1)]
set_option maxRecDepth 100000 in
theorem gv_27_3 : g_okc cX5_ofMove gi_27_3 = true := by decide +kernel
def gi_27 : List (List (Nat × Instr × Nat)) := [gi_27_0, gi_27_1, gi_27_2, gi_27_3]
theorem gv_27 : ∀ ch ∈ gi_27, g_okc cX5_ofMove ch = true := List.forall_mem_cons.mpr ⟨gv_27_0, List.forall_mem_cons.mpr ⟨gv_27_1, List.forall_mem_cons.mpr ⟨gv_27_2, List.forall_mem_cons.mpr ⟨gv_27_3, fun _ h => absurd h List.not_mem_nil⟩⟩⟩⟩
def gi_28_0 : List (Nat × Instr × Nat) := [(0, .iconst 0, 1), (1, .istore_n 2, 1), (2, .iload_n 2, 1), (3, .bipush 6, 2), (5, .if_icmp .ge 27, 3), (8, .aload_n 0, 1), (9, .iload_n 1, 1), (10, .iload_n 2, 1), (11, .iconst 0, 1), (12, .invokevirtual 65, 3), (15, .ifCond .ge 5, 3), (18, .iconst (-1), 1), (19, .ireturn, 1), (20, .goto 6, 3), (23, .astore_n 3, 1), (24, .iload_n 2, 1), (25, .ireturn, 1), (26, .iinc 2 1, 3), (29, .goto (-27), 3)]
set_option maxRecDepth 100000 in
theorem gv_28_0 : g_okc cL_moves gi_28_0 = true := by decide +kernel
def gi_28_1 : List (Nat × Instr × Nat) := [(32, .bipush 6, 2), (34, .ireturn, 1)]
set_option maxRecDepth 100000 in
theorem gv_28_1 : g_okc cL_moves gi_28_1 = true := by decide +kernel
def gi_28 : List (List (Nat × Instr × Nat)) := [gi_28_0, gi_28_1]
theorem gv_28 : ∀ ch ∈ gi_28, g_okc cL_moves ch = true := List.forall_mem_cons.mpr ⟨gv_28_0, List.forall_mem_cons.mpr ⟨gv_28_1, fun _ h => absurd h List.not_mem_nil⟩⟩
def gi_29_0 : List (Nat × Instr × Nat) := [(0, .iconst 0, 1), (1, .istore_n 2, 1), (2, .iload_n 2, 1), (3, .aload_n 0, 1), (4, .getfield 22, 3), (7, .if_icmp .ge 24, 3), (10, .aload_n 0, 1), (11, .getfield 17, 3), (14, .iload_n 2, 1), (15, .aaload, 1), (16, .getfield 36, 3), (19, .iload_n 1, 1), (20, .if_icmp .ne 5, 3), (23, .iconst 1, 1), (24, .ireturn, 1), (25, .iinc 2 1, 3), (28, .goto (-26), 3), (31, .iconst 0, 1)]
set_option maxRecDepth 100000 in
theorem gv_29_0 : g_okc cX1_hasMoveOf gi_29_0 = true := by decide +kernel
def gi_29_1 : List (Nat × Instr × Nat) := [(32, .ireturn, 1)]
set_option maxRecDepth 100000 in
theorem gv_29_1 : g_okc cX1_hasMoveOf gi_29_1 = true := by decide +kernel
def gi_29 : List (List (Nat × Instr × Nat)) := [gi_29_0, gi_29_1]
theorem gv_29 : ∀ ch ∈ gi_29, g_okc cX1_hasMoveOf ch = true := List.forall_mem_cons.mpr ⟨gv_29_0, List.forall_mem_cons.mpr ⟨gv_29_1, fun _ h => absurd h List.not_mem_nil⟩⟩
def gi_30_0 : List (Nat × Instr × Nat) := [(0, .aload_n 0, 1), (1, .getfield 10, 3), (4, .iload_n 1, 1), (5, .invokevirtual 98, 3), (8, .astore 6, 2), (10, .aload_n 0, 1), (11, .getfield 10, 3), (14, .iload_n 2, 1), (15, .invokevirtual 102, 3), (18, .astore 7, 2), (20, .iload_n 3, 1), (21, .ifCond .lt 9, 3), (24, .iload_n 3, 1), (25, .bipush 120, 2), (27, .if_icmp .le 13, 3), (30, .new 30, 3)]
set_option maxRecDepth 100000 in
theorem gv_30_0 : g_okc cX5_move gi_30_0 = true := by decide +kernel
def gi_30_1 : List (Nat × Instr × Nat) := [(33, .dup, 1), (34, .ldc 106, 2), (36, .invokespecial 34, 3), (39, .athrow, 1), (40, .iload 4, 2), (42, .iconst 1, 1), (43, .if_icmp .lt 10, 3), (46, .iload 4, 2), (48, .bipush 6, 2), (50, .if_icmp .le 13, 3), (53, .new 30, 3), (56, .dup, 1), (57, .ldc 108, 2), (59, .invokespecial 34, 3), (62, .athrow, 1), (63, .iload 5, 2)]
set_option maxRecDepth 100000 in
theorem gv_30_1 : g_okc cX5_move gi_30_1 = true := by decide +kernel
def gi_30_2 : List (Nat × Instr × Nat) := [(65, .ifCond .lt 10, 3), (68, .iload 5, 2), (70, .bipush 20, 2), (72, .if_icmp .le 13, 3), (75, .new 30, 3), (78, .dup, 1), (79, .ldc 110, 2), (81, .invokespecial 34, 3), (84, .athrow, 1), (85, .aload_n 0, 1), (86, .getfield 10, 3), (89, .getfield 112, 3), (92, .iload_n 1, 1), (93, .if_icmp .ne 13, 3)]
set_option maxRecDepth 100000 in
theorem gv_30_2 : g_okc cX5_move gi_30_2 = true := by decide +kernel
def gi_30_3 : List (Nat × Instr × Nat) := [(96, .new 41, 3), (99, .dup, 1), (100, .ldc 115, 2), (102, .invokespecial 45, 3), (105, .athrow, 1), (106, .aload 6, 2), (108, .getfield 117, 3), (111, .bipush 6, 2), (113, .if_icmp .lt 13, 3), (116, .new 41, 3), (119, .dup, 1), (120, .ldc 120, 2), (122, .invokespecial 45, 3), (125, .athrow, 1), (126, .aload 6, 2)]
set_option maxRecDepth 100000 in
theorem gv_30_3 : g_okc cX5_move gi_30_3 = true := by decide +kernel
def gi_30_4 : List (Nat × Instr × Nat) := [(128, .aload 7, 2), (130, .getfield 59, 3), (133, .invokevirtual 122, 3), (136, .ifCond .eq 13, 3), (139, .new 41, 3), (142, .dup, 1), (143, .ldc 126, 2), (145, .invokespecial 45, 3), (148, .athrow, 1), (149, .aload 6, 2), (151, .getfield 128, 3), (154, .aload 6, 2), (156, .getfield 117, 3), (159, .aaload, 1)]
set_option maxRecDepth 100000 in
theorem gv_30_4 : g_okc cX5_move gi_30_4 = true := by decide +kernel
def gi_30_5 : List (Nat × Instr × Nat) := [(160, .astore 8, 2), (162, .aload 8, 2), (164, .aload 7, 2), (166, .getfield 59, 3), (169, .putfield 132, 3), (172, .aload 8, 2), (174, .iload_n 3, 1), (175, .putfield 137, 3), (178, .aload 8, 2), (180, .iload 4, 2), (182, .putfield 140, 3), (185, .aload 8, 2), (187, .iload 5, 2), (189, .putfield 143, 3)]
set_option maxRecDepth 100000 in
theorem gv_30_5 : g_okc cX5_move gi_30_5 = true := by decide +kernel
def gi_30_6 : List (Nat × Instr × Nat) := [(192, .aload 6, 2), (194, .dup, 1), (195, .getfield 117, 3), (198, .dup_x1, 1), (199, .iconst 1, 1), (200, .iadd, 1), (201, .putfield 117, 3), (204, .ireturn, 1)]
set_option maxRecDepth 100000 in
theorem gv_30_6 : g_okc cX5_move gi_30_6 = true := by decide +kernel
def gi_30 : List (List (Nat × Instr × Nat)) := [gi_30_0, gi_30_1, gi_30_2, gi_30_3, gi_30_4, gi_30_5, gi_30_6]
theorem gv_30 : ∀ ch ∈ gi_30, g_okc cX5_move ch = true := List.forall_mem_cons.mpr ⟨gv_30_0, List.forall_mem_cons.mpr ⟨gv_30_1, List.forall_mem_cons.mpr ⟨gv_30_2, List.forall_mem_cons.mpr ⟨gv_30_3, List.forall_mem_cons.mpr ⟨gv_30_4, List.forall_mem_cons.mpr ⟨gv_30_5, List.forall_mem_cons.mpr ⟨gv_30_6, fun _ h => absurd h List.not_mem_nil⟩⟩⟩⟩⟩⟩⟩
def gi_31_0 : List (Nat × Instr × Nat) := [(0, .aload_n 0, 1), (1, .iload_n 1, 1), (2, .iload_n 2, 1), (3, .iload_n 3, 1), (4, .iload 4, 2), (6, .iload 5, 2), (8, .invokevirtual 102, 3), (11, .ireturn, 1), (12, .astore 6, 2), (14, .iconst (-1), 1), (15, .ireturn, 1)]
set_option maxRecDepth 100000 in
theorem gv_31_0 : g_okc cL_move gi_31_0 = true := by decide +kernel
def gi_31 : List (List (Nat × Instr × Nat)) := [gi_31_0]
theorem gv_31 : ∀ ch ∈ gi_31, g_okc cL_move ch = true := List.forall_mem_cons.mpr ⟨gv_31_0, fun _ h => absurd h List.not_mem_nil⟩
def gi_32_0 : List (Nat × Instr × Nat) := [(0, .iload_n 1, 1), (1, .ifCond .lt 8, 3), (4, .iload_n 1, 1), (5, .iconst 5, 1), (6, .if_icmp .le 13, 3), (9, .new 30, 3), (12, .dup, 1), (13, .ldc 146, 2), (15, .invokespecial 34, 3), (18, .athrow, 1), (19, .aload_n 0, 1), (20, .getfield 10, 3), (23, .getfield 148, 3), (26, .istore_n 2, 1), (27, .aload_n 0, 1), (28, .getfield 10, 3), (31, .iload_n 1, 1)]
set_option maxRecDepth 100000 in
theorem gv_32_0 : g_okc cX5_crew gi_32_0 = true := by decide +kernel
def gi_32_1 : List (Nat × Instr × Nat) := [(32, .putfield 148, 3), (35, .iload_n 2, 1), (36, .ireturn, 1)]
set_option maxRecDepth 100000 in
theorem gv_32_1 : g_okc cX5_crew gi_32_1 = true := by decide +kernel
def gi_32 : List (List (Nat × Instr × Nat)) := [gi_32_0, gi_32_1]
theorem gv_32 : ∀ ch ∈ gi_32, g_okc cX5_crew ch = true := List.forall_mem_cons.mpr ⟨gv_32_0, List.forall_mem_cons.mpr ⟨gv_32_1, fun _ h => absurd h List.not_mem_nil⟩⟩
def gi_33_0 : List (Nat × Instr × Nat) := [(0, .aload_n 0, 1), (1, .getfield 10, 3), (4, .iload_n 1, 1), (5, .invokevirtual 102, 3), (8, .astore 4, 2), (10, .aload 4, 2), (12, .getfield 151, 3), (15, .istore 5, 2), (17, .aload 4, 2), (19, .iload_n 2, 1), (20, .putfield 151, 3), (23, .aload 4, 2), (25, .iload_n 3, 1), (26, .putfield 154, 3), (29, .iload 5, 2), (31, .ireturn, 1)]
set_option maxRecDepth 100000 in
theorem gv_33_0 : g_okc cX5_below gi_33_0 = true := by decide +kernel
def gi_33 : List (List (Nat × Instr × Nat)) := [gi_33_0]
theorem gv_33 : ∀ ch ∈ gi_33, g_okc cX5_below ch = true := List.forall_mem_cons.mpr ⟨gv_33_0, fun _ h => absurd h List.not_mem_nil⟩
def gi_34_0 : List (Nat × Instr × Nat) := [(0, .iconst 0, 1), (1, .istore_n 1, 1), (2, .iload_n 1, 1), (3, .aload_n 0, 1), (4, .getfield 22, 3), (7, .if_icmp .ge 29, 3), (10, .aload_n 0, 1), (11, .getfield 17, 3), (14, .iload_n 1, 1), (15, .aaload, 1), (16, .iconst 0, 1), (17, .putfield 39, 3), (20, .aload_n 0, 1), (21, .getfield 17, 3), (24, .iload_n 1, 1), (25, .aaload, 1), (26, .iconst 0, 1), (27, .putfield 42, 3), (30, .iinc 1 1, 3)]
set_option maxRecDepth 100000 in
theorem gv_34_0 : g_okc cX1_openAll gi_34_0 = true := by decide +kernel
def gi_34_1 : List (Nat × Instr × Nat) := [(33, .goto (-31), 3), (36, .return_, 1)]
set_option maxRecDepth 100000 in
theorem gv_34_1 : g_okc cX1_openAll gi_34_1 = true := by decide +kernel
def gi_34 : List (List (Nat × Instr × Nat)) := [gi_34_0, gi_34_1]
theorem gv_34 : ∀ ch ∈ gi_34, g_okc cX1_openAll ch = true := List.forall_mem_cons.mpr ⟨gv_34_0, List.forall_mem_cons.mpr ⟨gv_34_1, fun _ h => absurd h List.not_mem_nil⟩⟩
def gi_35_0 : List (Nat × Instr × Nat) := [(0, .aload_n 0, 1), (1, .iload_n 1, 1), (2, .invokevirtual 96, 3), (5, .invokevirtual 100, 3), (8, .aload_n 0, 1), (9, .iload_n 1, 1), (10, .putfield 15, 3), (13, .aload_n 0, 1), (14, .iconst 0, 1), (15, .putfield 56, 3), (18, .aload_n 0, 1), (19, .iconst 0, 1), (20, .putfield 60, 3), (23, .return_, 1)]
set_option maxRecDepth 100000 in
theorem gv_35_0 : g_okc cX4_begin gi_35_0 = true := by decide +kernel
def gi_35 : List (List (Nat × Instr × Nat)) := [gi_35_0]
theorem gv_35 : ∀ ch ∈ gi_35, g_okc cX4_begin ch = true := List.forall_mem_cons.mpr ⟨gv_35_0, fun _ h => absurd h List.not_mem_nil⟩
def gi_36_0 : List (Nat × Instr × Nat) := [(0, .aload_n 0, 1), (1, .getfield 10, 3), (4, .iload_n 1, 1), (5, .invokevirtual 98, 3), (8, .astore_n 2, 1), (9, .aload_n 0, 1), (10, .getfield 10, 3), (13, .getfield 112, 3), (16, .iconst (-1), 1), (17, .if_icmp .eq 13, 3), (20, .new 41, 3), (23, .dup, 1), (24, .ldc 189, 2), (26, .invokespecial 45, 3), (29, .athrow, 1), (30, .aload_n 0, 1), (31, .getfield 10, 3)]
set_option maxRecDepth 100000 in
theorem gv_36_0 : g_okc cX5_go gi_36_0 = true := by decide +kernel
def gi_36_1 : List (Nat × Instr × Nat) := [(34, .iload_n 1, 1), (35, .invokevirtual 191, 3), (38, .aload_n 2, 1), (39, .getfield 117, 3), (42, .ireturn, 1)]
set_option maxRecDepth 100000 in
theorem gv_36_1 : g_okc cX5_go gi_36_1 = true := by decide +kernel
def gi_36 : List (List (Nat × Instr × Nat)) := [gi_36_0, gi_36_1]
theorem gv_36 : ∀ ch ∈ gi_36, g_okc cX5_go ch = true := List.forall_mem_cons.mpr ⟨gv_36_0, List.forall_mem_cons.mpr ⟨gv_36_1, fun _ h => absurd h List.not_mem_nil⟩⟩
def gi_37_0 : List (Nat × Instr × Nat) := [(0, .aload_n 0, 1), (1, .getfield 10, 3), (4, .getfield 112, 3), (7, .iconst (-1), 1), (8, .if_icmp .ne 14, 3), (11, .new 41, 3), (14, .dup, 1), (15, .ldc_w 334, 3), (18, .invokespecial 45, 3), (21, .athrow, 1), (22, .return_, 1)]
set_option maxRecDepth 100000 in
theorem gv_37_0 : g_okc cX5_refuseUnlessRunning gi_37_0 = true := by decide +kernel
def gi_37 : List (List (Nat × Instr × Nat)) := [gi_37_0]
theorem gv_37 : ∀ ch ∈ gi_37, g_okc cX5_refuseUnlessRunning ch = true := List.forall_mem_cons.mpr ⟨gv_37_0, fun _ h => absurd h List.not_mem_nil⟩
def gi_38_0 : List (Nat × Instr × Nat) := [(0, .aload_n 0, 1), (1, .invokevirtual 195, 3), (4, .aload_n 0, 1), (5, .getfield 10, 3), (8, .getfield 198, 3), (11, .istore_n 2, 1), (12, .aload_n 0, 1), (13, .getfield 10, 3), (16, .iload_n 1, 1), (17, .putfield 198, 3), (20, .iload_n 2, 1), (21, .ireturn, 1)]
set_option maxRecDepth 100000 in
theorem gv_38_0 : g_okc cX5_stop gi_38_0 = true := by decide +kernel
def gi_38 : List (List (Nat × Instr × Nat)) := [gi_38_0]
theorem gv_38 : ∀ ch ∈ gi_38, g_okc cX5_stop ch = true := List.forall_mem_cons.mpr ⟨gv_38_0, fun _ h => absurd h List.not_mem_nil⟩
def gi_39_0 : List (Nat × Instr × Nat) := [(0, .aload_n 0, 1), (1, .iconst (-1), 1), (2, .putfield 15, 3), (5, .aload_n 0, 1), (6, .iconst 0, 1), (7, .putfield 56, 3), (10, .aload_n 0, 1), (11, .iconst 0, 1), (12, .putfield 60, 3), (15, .return_, 1)]
set_option maxRecDepth 100000 in
theorem gv_39_0 : g_okc cX4_rest gi_39_0 = true := by decide +kernel
def gi_39 : List (List (Nat × Instr × Nat)) := [gi_39_0]
theorem gv_39 : ∀ ch ∈ gi_39, g_okc cX4_rest ch = true := List.forall_mem_cons.mpr ⟨gv_39_0, fun _ h => absurd h List.not_mem_nil⟩
def gi_40_0 : List (Nat × Instr × Nat) := [(0, .aload_n 0, 1), (1, .invokevirtual 195, 3), (4, .aload_n 0, 1), (5, .getfield 10, 3), (8, .invokevirtual 201, 3), (11, .istore_n 1, 1), (12, .aload_n 0, 1), (13, .getfield 10, 3), (16, .invokevirtual 204, 3), (19, .iload_n 1, 1), (20, .ireturn, 1)]
set_option maxRecDepth 100000 in
theorem gv_40_0 : g_okc cX5_end gi_40_0 = true := by decide +kernel
def gi_40 : List (List (Nat × Instr × Nat)) := [gi_40_0]
theorem gv_40 : ∀ ch ∈ gi_40, g_okc cX5_end ch = true := List.forall_mem_cons.mpr ⟨gv_40_0, fun _ h => absurd h List.not_mem_nil⟩
def gi_41_0 : List (Nat × Instr × Nat) := [(0, .aload_n 0, 1), (1, .getfield 10, 3), (4, .iload_n 1, 1), (5, .invokevirtual 102, 3), (8, .astore_n 3, 1), (9, .aload_n 3, 1), (10, .getfield 207, 3), (13, .istore 4, 2), (15, .aload_n 3, 1), (16, .iload_n 2, 1), (17, .putfield 207, 3), (20, .iload 4, 2), (22, .ireturn, 1)]
set_option maxRecDepth 100000 in
theorem gv_41_0 : g_okc cX5_brake gi_41_0 = true := by decide +kernel
def gi_41 : List (List (Nat × Instr × Nat)) := [gi_41_0]
theorem gv_41 : ∀ ch ∈ gi_41, g_okc cX5_brake ch = true := List.forall_mem_cons.mpr ⟨gv_41_0, fun _ h => absurd h List.not_mem_nil⟩
def gi_42_0 : List (Nat × Instr × Nat) := [(0, .aload_n 0, 1), (1, .getfield 13, 3), (4, .aload_n 2, 1), (5, .getfield 13, 3), (8, .if_icmp .ge 15, 3), (11, .aload_n 2, 1), (12, .getfield 13, 3), (15, .aload_n 0, 1), (16, .getfield 13, 3), (19, .isub, 1), (20, .goto 12, 3), (23, .aload_n 0, 1), (24, .getfield 13, 3), (27, .aload_n 2, 1), (28, .getfield 13, 3), (31, .isub, 1)]
set_option maxRecDepth 100000 in
theorem gv_42_0 : g_okc cX0_touchesAt gi_42_0 = true := by decide +kernel
def gi_42_1 : List (Nat × Instr × Nat) := [(32, .istore_n 3, 1), (33, .iload_n 3, 1), (34, .ifCond .eq 46, 3), (37, .iload_n 3, 1), (38, .aload_n 0, 1), (39, .getfield 35, 3), (42, .aload_n 2, 1), (43, .getfield 35, 3), (46, .iadd, 1), (47, .if_icmp .gt 33, 3), (50, .iload_n 1, 1), (51, .aload_n 0, 1), (52, .getfield 32, 3), (55, .isub, 1), (56, .aload_n 2, 1), (57, .getfield 23, 3), (60, .if_icmp .gt 20, 3), (63, .aload_n 2, 1)]
set_option maxRecDepth 100000 in
theorem gv_42_1 : g_okc cX0_touchesAt gi_42_1 = true := by decide +kernel
def gi_42_2 : List (Nat × Instr × Nat) := [(64, .getfield 23, 3), (67, .aload_n 2, 1), (68, .getfield 32, 3), (71, .isub, 1), (72, .iload_n 1, 1), (73, .if_icmp .gt 7, 3), (76, .iconst 1, 1), (77, .goto 4, 3), (80, .iconst 0, 1), (81, .ireturn, 1)]
set_option maxRecDepth 100000 in
theorem gv_42_2 : g_okc cX0_touchesAt gi_42_2 = true := by decide +kernel
def gi_42 : List (List (Nat × Instr × Nat)) := [gi_42_0, gi_42_1, gi_42_2]
theorem gv_42 : ∀ ch ∈ gi_42, g_okc cX0_touchesAt ch = true := List.forall_mem_cons.mpr ⟨gv_42_0, List.forall_mem_cons.mpr ⟨gv_42_1, List.forall_mem_cons.mpr ⟨gv_42_2, fun _ h => absurd h List.not_mem_nil⟩⟩⟩
def gi_43_0 : List (Nat × Instr × Nat) := [(0, .aload_n 0, 1), (1, .getfield 10, 3), (4, .iload_n 1, 1), (5, .invokevirtual 102, 3), (8, .astore_n 3, 1), (9, .aload_n 0, 1), (10, .getfield 10, 3), (13, .iload_n 2, 1), (14, .invokevirtual 102, 3), (17, .astore 4, 2), (19, .aload_n 3, 1), (20, .aload_n 3, 1), (21, .getfield 223, 3), (24, .aload 4, 2), (26, .invokevirtual 251, 3), (29, .ireturn, 1)]
set_option maxRecDepth 100000 in
theorem gv_43_0 : g_okc cX5_touch gi_43_0 = true := by decide +kernel
def gi_43 : List (List (Nat × Instr × Nat)) := [gi_43_0]
theorem gv_43 : ∀ ch ∈ gi_43, g_okc cX5_touch ch = true := List.forall_mem_cons.mpr ⟨gv_43_0, fun _ h => absurd h List.not_mem_nil⟩
def gi_44_0 : List (Nat × Instr × Nat) := [(0, .aload_n 0, 1), (1, .invokevirtual 50, 3), (4, .istore_n 1, 1), (5, .iload_n 1, 1), (6, .ifCond .ge 8, 3), (9, .iload_n 1, 1), (10, .ineg, 1), (11, .goto 4, 3), (14, .iload_n 1, 1), (15, .ireturn, 1)]
set_option maxRecDepth 100000 in
theorem gv_44_0 : g_okc cX0_differenceWithoutSign gi_44_0 = true := by decide +kernel
def gi_44 : List (List (Nat × Instr × Nat)) := [gi_44_0]
theorem gv_44 : ∀ ch ∈ gi_44, g_okc cX0_differenceWithoutSign ch = true := List.forall_mem_cons.mpr ⟨gv_44_0, fun _ h => absurd h List.not_mem_nil⟩
def gi_45_0 : List (Nat × Instr × Nat) := [(0, .aload_n 2, 1), (1, .invokevirtual 156, 3), (4, .bipush 10, 2), (6, .if_icmp .le 20, 3), (9, .aload_n 1, 1), (10, .iconst 2, 1), (11, .putfield 133, 3), (14, .aload_n 0, 1), (15, .dup, 1), (16, .getfield 69, 3), (19, .iconst 1, 1), (20, .iadd, 1), (21, .putfield 69, 3), (24, .iconst 0, 1), (25, .ireturn, 1), (26, .aload_n 2, 1), (27, .getfield 159, 3), (30, .ifCond .ne 14, 3)]
set_option maxRecDepth 100000 in
theorem gv_45_0 : g_okc cX4_mayGo gi_45_0 = true := by decide +kernel
def gi_45_1 : List (Nat × Instr × Nat) := [(33, .aload_n 0, 1), (34, .getfield 50, 3), (37, .ifCond .ne 7, 3), (40, .iconst 1, 1), (41, .goto 4, 3), (44, .iconst 0, 1), (45, .istore_n 3, 1), (46, .iload_n 3, 1), (47, .ifCond .ne 17, 3), (50, .aload_n 2, 1), (51, .getfield 162, 3), (54, .ifCond .eq 32, 3), (57, .aload_n 2, 1), (58, .getfield 165, 3), (61, .ifCond .ne 25, 3)]
set_option maxRecDepth 100000 in
theorem gv_45_1 : g_okc cX4_mayGo gi_45_1 = true := by decide +kernel
def gi_45_2 : List (Nat × Instr × Nat) := [(64, .aload_n 1, 1), (65, .dup, 1), (66, .getfield 168, 3), (69, .iconst 1, 1), (70, .iadd, 1), (71, .putfield 168, 3), (74, .aload_n 0, 1), (75, .dup, 1), (76, .getfield 81, 3), (79, .iconst 1, 1), (80, .iadd, 1), (81, .putfield 81, 3), (84, .iconst 0, 1), (85, .ireturn, 1), (86, .iconst 1, 1), (87, .ireturn, 1)]
set_option maxRecDepth 100000 in
theorem gv_45_2 : g_okc cX4_mayGo gi_45_2 = true := by decide +kernel
def gi_45 : List (List (Nat × Instr × Nat)) := [gi_45_0, gi_45_1, gi_45_2]
theorem gv_45 : ∀ ch ∈ gi_45, g_okc cX4_mayGo ch = true := List.forall_mem_cons.mpr ⟨gv_45_0, List.forall_mem_cons.mpr ⟨gv_45_1, List.forall_mem_cons.mpr ⟨gv_45_2, fun _ h => absurd h List.not_mem_nil⟩⟩⟩
def gi_46_0 : List (Nat × Instr × Nat) := [(0, .iconst 0, 1), (1, .istore_n 3, 1), (2, .iload_n 3, 1), (3, .aload_n 0, 1), (4, .getfield 37, 3), (7, .if_icmp .ge 42, 3), (10, .aload_n 1, 1), (11, .iload_n 2, 1), (12, .aload_n 0, 1), (13, .getfield 23, 3), (16, .iload_n 3, 1), (17, .aaload, 1), (18, .invokevirtual 194, 3), (21, .ifCond .eq 22, 3), (24, .aload_n 1, 1), (25, .aload_n 1, 1), (26, .getfield 107, 3), (29, .aload_n 0, 1), (30, .getfield 23, 3)]
set_option maxRecDepth 100000 in
theorem gv_46_0 : g_okc cX4_touchesAnew gi_46_0 = true := by decide +kernel
def gi_46_1 : List (Nat × Instr × Nat) := [(33, .iload_n 3, 1), (34, .aaload, 1), (35, .invokevirtual 194, 3), (38, .ifCond .ne 5, 3), (41, .iconst 1, 1), (42, .ireturn, 1), (43, .iinc 3 1, 3), (46, .goto (-44), 3), (49, .iconst 0, 1), (50, .ireturn, 1)]
set_option maxRecDepth 100000 in
theorem gv_46_1 : g_okc cX4_touchesAnew gi_46_1 = true := by decide +kernel
def gi_46 : List (List (Nat × Instr × Nat)) := [gi_46_0, gi_46_1]
theorem gv_46 : ∀ ch ∈ gi_46, g_okc cX4_touchesAnew ch = true := List.forall_mem_cons.mpr ⟨gv_46_0, List.forall_mem_cons.mpr ⟨gv_46_1, fun _ h => absurd h List.not_mem_nil⟩⟩
def gi_47_0 : List (Nat × Instr × Nat) := [(0, .aload_n 0, 1), (1, .dup, 1), (2, .getfield 44, 3), (5, .iload_n 1, 1), (6, .aload_n 0, 1), (7, .getfield 23, 3), (10, .if_icmp .ge 12, 3), (13, .aload_n 0, 1), (14, .getfield 23, 3), (17, .iload_n 1, 1), (18, .isub, 1), (19, .goto 9, 3), (22, .iload_n 1, 1), (23, .aload_n 0, 1), (24, .getfield 23, 3), (27, .isub, 1), (28, .iadd, 1), (29, .putfield 44, 3)]
set_option maxRecDepth 100000 in
theorem gv_47_0 : g_okc cX0_goTo gi_47_0 = true := by decide +kernel
def gi_47_1 : List (Nat × Instr × Nat) := [(32, .aload_n 0, 1), (33, .iload_n 1, 1), (34, .putfield 23, 3), (37, .return_, 1)]
set_option maxRecDepth 100000 in
theorem gv_47_1 : g_okc cX0_goTo gi_47_1 = true := by decide +kernel
def gi_47 : List (List (Nat × Instr × Nat)) := [gi_47_0, gi_47_1]
theorem gv_47 : ∀ ch ∈ gi_47, g_okc cX0_goTo ch = true := List.forall_mem_cons.mpr ⟨gv_47_0, List.forall_mem_cons.mpr ⟨gv_47_1, fun _ h => absurd h List.not_mem_nil⟩⟩
def gi_48_0 : List (Nat × Instr × Nat) := [(0, .aload_n 2, 1), (1, .getfield 159, 3), (4, .ifCond .ne 13, 3), (7, .aload_n 0, 1), (8, .dup, 1), (9, .getfield 50, 3), (12, .iconst 1, 1), (13, .isub, 1), (14, .putfield 50, 3), (17, .aload_n 1, 1), (18, .getfield 169, 3), (21, .ineg, 1), (22, .aload_n 1, 1), (23, .getfield 169, 3), (26, .aload_n 1, 1), (27, .getfield 172, 3), (30, .aload_n 2, 1), (31, .getfield 107, 3)]
set_option maxRecDepth 100000 in
theorem gv_48_0 : g_okc cX4_goNearer gi_48_0 = true := by decide +kernel
def gi_48_1 : List (Nat × Instr × Nat) := [(34, .isub, 1), (35, .invokestatic 175, 3), (38, .invokestatic 181, 3), (41, .istore_n 3, 1), (42, .aload_n 2, 1), (43, .getfield 107, 3), (46, .iload_n 3, 1), (47, .iadd, 1), (48, .istore 4, 2), (50, .aload_n 0, 1), (51, .aload_n 2, 1), (52, .iload 4, 2), (54, .invokevirtual 184, 3), (57, .ifCond .eq 27, 3), (60, .aload_n 0, 1), (61, .iconst 1, 1), (62, .putfield 56, 3)]
set_option maxRecDepth 100000 in
theorem gv_48_1 : g_okc cX4_goNearer gi_48_1 = true := by decide +kernel
def gi_48_2 : List (Nat × Instr × Nat) := [(65, .aload_n 0, 1), (66, .dup, 1), (67, .getfield 72, 3), (70, .iconst 1, 1), (71, .iadd, 1), (72, .putfield 72, 3), (75, .aload_n 0, 1), (76, .aload_n 2, 1), (77, .getfield 188, 3), (80, .putfield 18, 3), (83, .return_, 1), (84, .aload_n 2, 1), (85, .iload 4, 2), (87, .invokevirtual 191, 3), (90, .aload_n 2, 1), (91, .getfield 107, 3), (94, .aload_n 1, 1), (95, .getfield 172, 3)]
set_option maxRecDepth 100000 in
theorem gv_48_2 : g_okc cX4_goNearer gi_48_2 = true := by decide +kernel
def gi_48_3 : List (Nat × Instr × Nat) := [(98, .if_icmp .ne 18, 3), (101, .aload_n 1, 1), (102, .iconst 1, 1), (103, .putfield 133, 3), (106, .aload_n 0, 1), (107, .dup, 1), (108, .getfield 63, 3), (111, .iconst 1, 1), (112, .iadd, 1), (113, .putfield 63, 3), (116, .return_, 1)]
set_option maxRecDepth 100000 in
theorem gv_48_3 : g_okc cX4_goNearer gi_48_3 = true := by decide +kernel
def gi_48 : List (List (Nat × Instr × Nat)) := [gi_48_0, gi_48_1, gi_48_2, gi_48_3]
theorem gv_48 : ∀ ch ∈ gi_48, g_okc cX4_goNearer ch = true := List.forall_mem_cons.mpr ⟨gv_48_0, List.forall_mem_cons.mpr ⟨gv_48_1, List.forall_mem_cons.mpr ⟨gv_48_2, List.forall_mem_cons.mpr ⟨gv_48_3, fun _ h => absurd h List.not_mem_nil⟩⟩⟩⟩
def gi_49_0 : List (Nat × Instr × Nat) := [(0, .aload_n 0, 1), (1, .dup, 1), (2, .getfield 60, 3), (5, .iconst 1, 1), (6, .iadd, 1), (7, .putfield 60, 3), (10, .aload_n 0, 1), (11, .aload_n 0, 1), (12, .getfield 9, 3), (15, .putfield 50, 3), (18, .iconst 0, 1), (19, .istore_n 2, 1), (20, .iload_n 2, 1), (21, .aload_n 1, 1), (22, .getfield 126, 3), (25, .if_icmp .ge 70, 3), (28, .aload_n 0, 1), (29, .getfield 56, 3)]
set_option maxRecDepth 100000 in
theorem gv_49_0 : g_okc cX4_playMoves gi_49_0 = true := by decide +kernel
def gi_49_1 : List (Nat × Instr × Nat) := [(32, .ifCond .ne 63, 3), (35, .aload_n 1, 1), (36, .getfield 129, 3), (39, .iload_n 2, 1), (40, .aaload, 1), (41, .astore_n 3, 1), (42, .aload_n 3, 1), (43, .getfield 133, 3), (46, .ifCond .ne 43, 3), (49, .aload_n 3, 1), (50, .getfield 138, 3), (53, .aload_n 0, 1), (54, .getfield 60, 3), (57, .iconst 1, 1), (58, .isub, 1), (59, .if_icmp .gt 30, 3), (62, .aload_n 0, 1), (63, .aload_n 3, 1)]
set_option maxRecDepth 100000 in
theorem gv_49_1 : g_okc cX4_playMoves gi_49_1 = true := by decide +kernel
def gi_49_2 : List (Nat × Instr × Nat) := [(64, .getfield 141, 3), (67, .invokevirtual 144, 3), (70, .astore 4, 2), (72, .aload_n 0, 1), (73, .aload_n 3, 1), (74, .aload 4, 2), (76, .invokevirtual 148, 3), (79, .ifCond .eq 10, 3), (82, .aload_n 0, 1), (83, .aload_n 3, 1), (84, .aload 4, 2), (86, .invokevirtual 152, 3), (89, .iinc 2 1, 3), (92, .goto (-72), 3), (95, .return_, 1)]
set_option maxRecDepth 100000 in
theorem gv_49_2 : g_okc cX4_playMoves gi_49_2 = true := by decide +kernel
def gi_49 : List (List (Nat × Instr × Nat)) := [gi_49_0, gi_49_1, gi_49_2]
theorem gv_49 : ∀ ch ∈ gi_49, g_okc cX4_playMoves ch = true := List.forall_mem_cons.mpr ⟨gv_49_0, List.forall_mem_cons.mpr ⟨gv_49_1, List.forall_mem_cons.mpr ⟨gv_49_2, fun _ h => absurd h List.not_mem_nil⟩⟩⟩
def gi_50_0 : List (Nat × Instr × Nat) := [(0, .aload_n 1, 1), (1, .getfield 107, 3), (4, .iload_n 2, 1), (5, .if_icmp .ge 12, 3), (8, .iload_n 2, 1), (9, .aload_n 1, 1), (10, .getfield 107, 3), (13, .isub, 1), (14, .goto 9, 3), (17, .aload_n 1, 1), (18, .getfield 107, 3), (21, .iload_n 2, 1), (22, .isub, 1), (23, .istore_n 3, 1), (24, .aload_n 1, 1), (25, .getfield 107, 3), (28, .ifCond .eq 12, 3), (31, .aload_n 1, 1)]
set_option maxRecDepth 100000 in
theorem gv_50_0 : g_okc cX4_judgeRun gi_50_0 = true := by decide +kernel
def gi_50_1 : List (Nat × Instr × Nat) := [(32, .getfield 107, 3), (35, .bipush 120, 2), (37, .if_icmp .ne 18, 3), (40, .iload_n 3, 1), (41, .iconst 4, 1), (42, .if_icmp .lt 13, 3), (45, .aload_n 0, 1), (46, .dup, 1), (47, .getfield 75, 3), (50, .iconst 1, 1), (51, .iadd, 1), (52, .putfield 75, 3), (55, .aload_n 1, 1), (56, .getfield 107, 3), (59, .iload_n 2, 1), (60, .if_icmp .ge 29, 3), (63, .aload_n 1, 1)]
set_option maxRecDepth 100000 in
theorem gv_50_1 : g_okc cX4_judgeRun gi_50_1 = true := by decide +kernel
def gi_50_2 : List (Nat × Instr × Nat) := [(64, .getfield 107, 3), (67, .bipush 20, 2), (69, .if_icmp .gt 20, 3), (72, .aload_n 1, 1), (73, .getfield 162, 3), (76, .ifCond .eq 13, 3), (79, .aload_n 0, 1), (80, .dup, 1), (81, .getfield 78, 3), (84, .iconst 1, 1), (85, .iadd, 1), (86, .putfield 78, 3), (89, .return_, 1)]
set_option maxRecDepth 100000 in
theorem gv_50_2 : g_okc cX4_judgeRun gi_50_2 = true := by decide +kernel
def gi_50 : List (List (Nat × Instr × Nat)) := [gi_50_0, gi_50_1, gi_50_2]
theorem gv_50 : ∀ ch ∈ gi_50, g_okc cX4_judgeRun ch = true := List.forall_mem_cons.mpr ⟨gv_50_0, List.forall_mem_cons.mpr ⟨gv_50_1, List.forall_mem_cons.mpr ⟨gv_50_2, fun _ h => absurd h List.not_mem_nil⟩⟩⟩
def gi_51_0 : List (Nat × Instr × Nat) := [(0, .bipush 8, 2), (2, .aload_n 1, 1), (3, .invokevirtual 156, 3), (6, .bipush 9, 2), (8, .iadd, 1), (9, .bipush 10, 2), (11, .idiv, 1), (12, .invokestatic 175, 3), (15, .istore_n 2, 1), (16, .aload_n 1, 1), (17, .invokevirtual 198, 3), (20, .ifCond .le 7, 3), (23, .iconst (-1), 1), (24, .goto 4, 3), (27, .iconst 1, 1), (28, .istore_n 3, 1), (29, .aload_n 1, 1), (30, .getfield 107, 3)]
set_option maxRecDepth 100000 in
theorem gv_51_0 : g_okc cX4_runAway gi_51_0 = true := by decide +kernel
def gi_51_1 : List (Nat × Instr × Nat) := [(33, .istore 4, 2), (35, .iconst 0, 1), (36, .istore 5, 2), (38, .iload 5, 2), (40, .iload_n 2, 1), (41, .if_icmp .ge 48, 3), (44, .aload_n 1, 1), (45, .getfield 107, 3), (48, .iload_n 3, 1), (49, .iadd, 1), (50, .istore 6, 2), (52, .iload 6, 2), (54, .ifCond .lt 35, 3), (57, .iload 6, 2), (59, .bipush 120, 2), (61, .if_icmp .gt 28, 3)]
set_option maxRecDepth 100000 in
theorem gv_51_1 : g_okc cX4_runAway gi_51_1 = true := by decide +kernel
def gi_51_2 : List (Nat × Instr × Nat) := [(64, .aload_n 0, 1), (65, .aload_n 1, 1), (66, .iload 6, 2), (68, .invokevirtual 184, 3), (71, .ifCond .eq 6, 3), (74, .goto 15, 3), (77, .aload_n 1, 1), (78, .iload 6, 2), (80, .invokevirtual 191, 3), (83, .iinc 5 1, 3), (86, .goto (-48), 3), (89, .aload_n 0, 1), (90, .aload_n 1, 1), (91, .iload 4, 2), (93, .invokevirtual 201, 3)]
set_option maxRecDepth 100000 in
theorem gv_51_2 : g_okc cX4_runAway gi_51_2 = true := by decide +kernel
def gi_51_3 : List (Nat × Instr × Nat) := [(96, .return_, 1)]
set_option maxRecDepth 100000 in
theorem gv_51_3 : g_okc cX4_runAway gi_51_3 = true := by decide +kernel
def gi_51 : List (List (Nat × Instr × Nat)) := [gi_51_0, gi_51_1, gi_51_2, gi_51_3]
theorem gv_51 : ∀ ch ∈ gi_51, g_okc cX4_runAway ch = true := List.forall_mem_cons.mpr ⟨gv_51_0, List.forall_mem_cons.mpr ⟨gv_51_1, List.forall_mem_cons.mpr ⟨gv_51_2, List.forall_mem_cons.mpr ⟨gv_51_3, fun _ h => absurd h List.not_mem_nil⟩⟩⟩⟩
def gi_52_0 : List (Nat × Instr × Nat) := [(0, .aload_n 0, 1), (1, .dup, 1), (2, .getfield 66, 3), (5, .iconst 1, 1), (6, .iadd, 1), (7, .putfield 66, 3), (10, .aload_n 0, 1), (11, .invokevirtual 205, 3), (14, .iload_n 1, 1), (15, .iconst (-1), 1), (16, .if_icmp .eq 16, 3), (19, .iload_n 1, 1), (20, .aload_n 0, 1), (21, .getfield 44, 3), (24, .if_icmp .ge 8, 3), (27, .aload_n 0, 1), (28, .iload_n 1, 1), (29, .invokevirtual 208, 3)]
set_option maxRecDepth 100000 in
theorem gv_52_0 : g_okc cX4_finish gi_52_0 = true := by decide +kernel
def gi_52_1 : List (Nat × Instr × Nat) := [(32, .return_, 1)]
set_option maxRecDepth 100000 in
theorem gv_52_1 : g_okc cX4_finish gi_52_1 = true := by decide +kernel
def gi_52 : List (List (Nat × Instr × Nat)) := [gi_52_0, gi_52_1]
theorem gv_52 : ∀ ch ∈ gi_52, g_okc cX4_finish ch = true := List.forall_mem_cons.mpr ⟨gv_52_0, List.forall_mem_cons.mpr ⟨gv_52_1, fun _ h => absurd h List.not_mem_nil⟩⟩
def gi_53_0 : List (Nat × Instr × Nat) := [(0, .aload_n 0, 1), (1, .dup, 1), (2, .getfield 53, 3), (5, .iconst 1, 1), (6, .iadd, 1), (7, .putfield 53, 3), (10, .iconst 0, 1), (11, .istore_n 1, 1), (12, .iload_n 1, 1), (13, .aload_n 0, 1), (14, .getfield 37, 3), (17, .if_icmp .ge 27, 3), (20, .aload_n 0, 1), (21, .getfield 23, 3), (24, .iload_n 1, 1), (25, .aaload, 1), (26, .aload_n 0, 1), (27, .getfield 23, 3), (30, .iload_n 1, 1), (31, .aaload, 1)]
set_option maxRecDepth 100000 in
theorem gv_53_0 : g_okc cX4_playSecond gi_53_0 = true := by decide +kernel
def gi_53_1 : List (Nat × Instr × Nat) := [(32, .getfield 107, 3), (35, .putfield 110, 3), (38, .iinc 1 1, 3), (41, .goto (-29), 3), (44, .aload_n 0, 1), (45, .getfield 15, 3), (48, .iconst (-1), 1), (49, .if_icmp .eq 22, 3), (52, .aload_n 0, 1), (53, .getfield 56, 3), (56, .ifCond .ne 15, 3), (59, .aload_n 0, 1), (60, .aload_n 0, 1), (61, .aload_n 0, 1), (62, .getfield 15, 3)]
set_option maxRecDepth 100000 in
theorem gv_53_1 : g_okc cX4_playSecond gi_53_1 = true := by decide +kernel
def gi_53_2 : List (Nat × Instr × Nat) := [(65, .invokevirtual 96, 3), (68, .invokevirtual 113, 3), (71, .iconst 0, 1), (72, .istore_n 1, 1), (73, .iload_n 1, 1), (74, .aload_n 0, 1), (75, .getfield 37, 3), (78, .if_icmp .ge 52, 3), (81, .aload_n 0, 1), (82, .getfield 23, 3), (85, .iload_n 1, 1), (86, .aaload, 1), (87, .getfield 93, 3), (90, .ifCond .eq 34, 3), (93, .aload_n 0, 1), (94, .getfield 23, 3)]
set_option maxRecDepth 100000 in
theorem gv_53_2 : g_okc cX4_playSecond gi_53_2 = true := by decide +kernel
def gi_53_3 : List (Nat × Instr × Nat) := [(97, .iload_n 1, 1), (98, .aaload, 1), (99, .getfield 107, 3), (102, .aload_n 0, 1), (103, .getfield 23, 3), (106, .iload_n 1, 1), (107, .aaload, 1), (108, .getfield 110, 3), (111, .if_icmp .ne 13, 3), (114, .aload_n 0, 1), (115, .aload_n 0, 1), (116, .getfield 23, 3), (119, .iload_n 1, 1), (120, .aaload, 1), (121, .invokevirtual 116, 3), (124, .iinc 1 1, 3), (127, .goto (-54), 3)]
set_option maxRecDepth 100000 in
theorem gv_53_3 : g_okc cX4_playSecond gi_53_3 = true := by decide +kernel
def gi_53_4 : List (Nat × Instr × Nat) := [(130, .aload_n 0, 1), (131, .getfield 15, 3), (134, .iconst (-1), 1), (135, .if_icmp .eq 25, 3), (138, .aload_n 0, 1), (139, .invokevirtual 119, 3), (142, .ifCond .ne 18, 3), (145, .aload_n 0, 1), (146, .aload_n 0, 1), (147, .aload_n 0, 1), (148, .getfield 15, 3), (151, .invokevirtual 96, 3), (154, .getfield 120, 3), (157, .invokevirtual 123, 3)]
set_option maxRecDepth 100000 in
theorem gv_53_4 : g_okc cX4_playSecond gi_53_4 = true := by decide +kernel
def gi_53_5 : List (Nat × Instr × Nat) := [(160, .return_, 1)]
set_option maxRecDepth 100000 in
theorem gv_53_5 : g_okc cX4_playSecond gi_53_5 = true := by decide +kernel
def gi_53 : List (List (Nat × Instr × Nat)) := [gi_53_0, gi_53_1, gi_53_2, gi_53_3, gi_53_4, gi_53_5]
theorem gv_53 : ∀ ch ∈ gi_53, g_okc cX4_playSecond ch = true := List.forall_mem_cons.mpr ⟨gv_53_0, List.forall_mem_cons.mpr ⟨gv_53_1, List.forall_mem_cons.mpr ⟨gv_53_2, List.forall_mem_cons.mpr ⟨gv_53_3, List.forall_mem_cons.mpr ⟨gv_53_4, List.forall_mem_cons.mpr ⟨gv_53_5, fun _ h => absurd h List.not_mem_nil⟩⟩⟩⟩⟩⟩
end
section
def gi_54_0 : List (Nat × Instr × Nat) := [(0, .iload_n 1, 1), (1, .iconst 1, 1), (2, .if_icmp .lt 9, 3), (5, .iload_n 1, 1), (6, .bipush 120, 2), (8, .if_icmp .le 13, 3), (11, .new 30, 3), (14, .dup, 1), (15, .ldc 210, 2), (17, .invokespecial 34, 3), (20, .athrow, 1), (21, .aload_n 0, 1), (22, .getfield 10, 3), (25, .getfield 212, 3), (28, .iload_n 1, 1), (29, .iadd, 1), (30, .sipush 3000, 3)]
set_option maxRecDepth 100000 in
theorem gv_54_0 : g_okc cX5_pass gi_54_0 = true := by decide +kernel
def gi_54_1 : List (Nat × Instr × Nat) := [(33, .if_icmp .le 13, 3), (36, .new 41, 3), (39, .dup, 1), (40, .ldc 215, 2), (42, .invokespecial 45, 3), (45, .athrow, 1), (46, .aload_n 0, 1), (47, .getfield 10, 3), (50, .getfield 217, 3), (53, .istore_n 2, 1), (54, .iconst 0, 1), (55, .istore_n 3, 1), (56, .iload_n 3, 1), (57, .iload_n 1, 1), (58, .if_icmp .ge 16, 3), (61, .aload_n 0, 1), (62, .getfield 10, 3)]
set_option maxRecDepth 100000 in
theorem gv_54_1 : g_okc cX5_pass gi_54_1 = true := by decide +kernel
def gi_54_2 : List (Nat × Instr × Nat) := [(65, .invokevirtual 220, 3), (68, .iinc 3 1, 3), (71, .goto (-15), 3), (74, .aload_n 0, 1), (75, .getfield 10, 3), (78, .getfield 217, 3), (81, .iload_n 2, 1), (82, .isub, 1), (83, .ireturn, 1)]
set_option maxRecDepth 100000 in
theorem gv_54_2 : g_okc cX5_pass gi_54_2 = true := by decide +kernel
def gi_54 : List (List (Nat × Instr × Nat)) := [gi_54_0, gi_54_1, gi_54_2]
theorem gv_54 : ∀ ch ∈ gi_54, g_okc cX5_pass ch = true := List.forall_mem_cons.mpr ⟨gv_54_0, List.forall_mem_cons.mpr ⟨gv_54_1, List.forall_mem_cons.mpr ⟨gv_54_2, fun _ h => absurd h List.not_mem_nil⟩⟩⟩
def gi_55_0 : List (Nat × Instr × Nat) := [(0, .iload_n 0, 1), (1, .iload_n 0, 1), (2, .iconst 1, 1), (3, .iushr, 1), (4, .ldc_w 265, 3), (7, .iand, 1), (8, .isub, 1), (9, .istore_n 0, 1), (10, .iload_n 0, 1), (11, .ldc_w 266, 3), (14, .iand, 1), (15, .iload_n 0, 1), (16, .iconst 2, 1), (17, .iushr, 1), (18, .ldc_w 266, 3), (21, .iand, 1), (22, .iadd, 1), (23, .istore_n 0, 1), (24, .iload_n 0, 1), (25, .iload_n 0, 1), (26, .iconst 4, 1), (27, .iushr, 1), (28, .iadd, 1), (29, .ldc_w 267, 3)]
set_option maxRecDepth 100000 in
theorem gv_55_0 : g_okc cJ6_bitCount_0f7a4 gi_55_0 = true := by decide +kernel
def gi_55_1 : List (Nat × Instr × Nat) := [(32, .iand, 1), (33, .istore_n 0, 1), (34, .iload_n 0, 1), (35, .iload_n 0, 1), (36, .bipush 8, 2), (38, .iushr, 1), (39, .iadd, 1), (40, .istore_n 0, 1), (41, .iload_n 0, 1), (42, .iload_n 0, 1), (43, .bipush 16, 2), (45, .iushr, 1), (46, .iadd, 1), (47, .istore_n 0, 1), (48, .iload_n 0, 1), (49, .bipush 63, 2), (51, .iand, 1), (52, .ireturn, 1)]
set_option maxRecDepth 100000 in
theorem gv_55_1 : g_okc cJ6_bitCount_0f7a4 gi_55_1 = true := by decide +kernel
def gi_55 : List (List (Nat × Instr × Nat)) := [gi_55_0, gi_55_1]
theorem gv_55 : ∀ ch ∈ gi_55, g_okc cJ6_bitCount_0f7a4 ch = true := List.forall_mem_cons.mpr ⟨gv_55_0, List.forall_mem_cons.mpr ⟨gv_55_1, fun _ h => absurd h List.not_mem_nil⟩⟩
def gi_56_0 : List (Nat × Instr × Nat) := [(0, .iload_n 1, 1), (1, .newarray .int, 2), (3, .astore_n 2, 1), (4, .iload_n 1, 1), (5, .newarray .int, 2), (7, .astore_n 3, 1), (8, .iload_n 1, 1), (9, .newarray .int, 2), (11, .astore 4, 2), (13, .iconst 5, 1), (14, .newarray .int, 2), (16, .astore 5, 2), (18, .iconst 0, 1), (19, .istore 6, 2), (21, .iload 6, 2), (23, .iload_n 1, 1), (24, .if_icmp .ge 70, 3), (27, .aload_n 2, 1), (28, .iload 6, 2), (30, .aload_n 0, 1), (31, .iload 6, 2)]
set_option maxRecDepth 100000 in
theorem gv_56_0 : g_okc cL_second gi_56_0 = true := by decide +kernel
def gi_56_1 : List (Nat × Instr × Nat) := [(33, .iconst 2, 1), (34, .invokevirtual 37, 3), (37, .iastore, 1), (38, .aload_n 3, 1), (39, .iload 6, 2), (41, .aload_n 0, 1), (42, .iload 6, 2), (44, .bipush 11, 2), (46, .invokevirtual 37, 3), (49, .iastore, 1), (50, .iconst 0, 1), (51, .istore 7, 2), (53, .iload 7, 2), (55, .iload_n 1, 1), (56, .if_icmp .ge 32, 3), (59, .aload_n 0, 1), (60, .iload 6, 2), (62, .iload 7, 2)]
set_option maxRecDepth 100000 in
theorem gv_56_1 : g_okc cL_second gi_56_1 = true := by decide +kernel
def gi_56_2 : List (Nat × Instr × Nat) := [(64, .invokevirtual 107, 3), (67, .ifCond .eq 15, 3), (70, .aload 4, 2), (72, .iload 6, 2), (74, .dup2, 1), (75, .iaload, 1), (76, .iconst 1, 1), (77, .iload 7, 2), (79, .ishl, 1), (80, .ior, 1), (81, .iastore, 1), (82, .iinc 7 1, 3), (85, .goto (-32), 3), (88, .iinc 6 1, 3), (91, .goto (-70), 3), (94, .iconst 0, 1), (95, .istore 6, 2)]
set_option maxRecDepth 100000 in
theorem gv_56_2 : g_okc cL_second gi_56_2 = true := by decide +kernel
def gi_56_3 : List (Nat × Instr × Nat) := [(97, .iload 6, 2), (99, .iconst 5, 1), (100, .if_icmp .ge 23, 3), (103, .aload 5, 2), (105, .iload 6, 2), (107, .aload_n 0, 1), (108, .bipush 10, 2), (110, .iload 6, 2), (112, .iadd, 1), (113, .invokevirtual 34, 3), (116, .iastore, 1), (117, .iinc 6 1, 3), (120, .goto (-23), 3), (123, .aload_n 0, 1), (124, .iconst 5, 1), (125, .invokevirtual 34, 3)]
set_option maxRecDepth 100000 in
theorem gv_56_3 : g_okc cL_second gi_56_3 = true := by decide +kernel
def gi_56_4 : List (Nat × Instr × Nat) := [(128, .istore 6, 2), (130, .aload_n 0, 1), (131, .bipush 6, 2), (133, .invokevirtual 34, 3), (136, .iconst 1, 1), (137, .if_icmp .ne 7, 3), (140, .iconst 1, 1), (141, .goto 4, 3), (144, .iconst 0, 1), (145, .istore 7, 2), (147, .aload_n 0, 1), (148, .bipush 8, 2), (150, .invokevirtual 34, 3), (153, .istore 8, 2), (155, .aload_n 0, 1), (156, .bipush 9, 2), (158, .invokevirtual 34, 3)]
set_option maxRecDepth 100000 in
theorem gv_56_4 : g_okc cL_second gi_56_4 = true := by decide +kernel
def gi_56_5 : List (Nat × Instr × Nat) := [(161, .istore 9, 2), (163, .aload_n 0, 1), (164, .iconst 0, 1), (165, .invokevirtual 34, 3), (168, .istore 10, 2), (170, .aload_n 0, 1), (171, .iconst 1, 1), (172, .invokevirtual 111, 3), (175, .istore 11, 2), (177, .iconst 0, 1), (178, .istore 12, 2), (180, .iconst 0, 1), (181, .istore 13, 2), (183, .iload 13, 2), (185, .iload_n 1, 1), (186, .if_icmp .ge 156, 3), (189, .aload_n 0, 1), (190, .iload 13, 2)]
set_option maxRecDepth 100000 in
theorem gv_56_5 : g_okc cL_second gi_56_5 = true := by decide +kernel
def gi_56_6 : List (Nat × Instr × Nat) := [(192, .iconst 2, 1), (193, .invokevirtual 37, 3), (196, .aload_n 2, 1), (197, .iload 13, 2), (199, .iaload, 1), (200, .isub, 1), (201, .invokestatic 114, 3), (204, .istore 14, 2), (206, .aload_n 0, 1), (207, .iload 13, 2), (209, .bipush 10, 2), (211, .invokevirtual 37, 3), (214, .iconst 1, 1), (215, .if_icmp .ne 8, 3), (218, .bipush 8, 2), (220, .goto 5, 3), (223, .bipush 6, 2)]
set_option maxRecDepth 100000 in
theorem gv_56_6 : g_okc cL_second gi_56_6 = true := by decide +kernel
def gi_56_7 : List (Nat × Instr × Nat) := [(225, .istore 15, 2), (227, .iload 12, 2), (229, .iload 14, 2), (231, .ifCond .le 7, 3), (234, .iconst 1, 1), (235, .goto 4, 3), (238, .iconst 0, 1), (239, .iadd, 1), (240, .istore 12, 2), (242, .iload 14, 2), (244, .iload 15, 2), (246, .if_icmp .gt 47, 3), (249, .aload_n 0, 1), (250, .iload 13, 2), (252, .bipush 11, 2), (254, .invokevirtual 37, 3)]
set_option maxRecDepth 100000 in
theorem gv_56_7 : g_okc cL_second gi_56_7 = true := by decide +kernel
def gi_56_8 : List (Nat × Instr × Nat) := [(257, .aload_n 3, 1), (258, .iload 13, 2), (260, .iaload, 1), (261, .iload 14, 2), (263, .iadd, 1), (264, .if_icmp .ne 29, 3), (267, .iload 14, 2), (269, .ifCond .le 26, 3), (272, .aload_n 0, 1), (273, .iload 13, 2), (275, .bipush 10, 2), (277, .invokevirtual 37, 3), (280, .ifCond .ne 15, 3), (283, .iload 6, 2), (285, .ifCond .lt 8, 3)]
set_option maxRecDepth 100000 in
theorem gv_56_8 : g_okc cL_second gi_56_8 = true := by decide +kernel
def gi_56_9 : List (Nat × Instr × Nat) := [(288, .iload 7, 2), (290, .ifCond .eq 5, 3), (293, .iconst (-1), 1), (294, .ireturn, 1), (295, .iconst 0, 1), (296, .istore 16, 2), (298, .iload 16, 2), (300, .iload_n 1, 1), (301, .if_icmp .ge 35, 3), (304, .aload_n 0, 1), (305, .iload 13, 2), (307, .iload 16, 2), (309, .invokevirtual 107, 3), (312, .ifCond .eq 18, 3), (315, .aload 4, 2), (317, .iload 13, 2), (319, .iaload, 1)]
set_option maxRecDepth 100000 in
theorem gv_56_9 : g_okc cL_second gi_56_9 = true := by decide +kernel
def gi_56_10 : List (Nat × Instr × Nat) := [(320, .iload 16, 2), (322, .ishr, 1), (323, .iconst 1, 1), (324, .iand, 1), (325, .ifCond .ne 5, 3), (328, .iconst (-1), 1), (329, .ireturn, 1), (330, .iinc 16 1, 3), (333, .goto (-35), 3), (336, .iinc 13 1, 3), (339, .goto (-156), 3), (342, .iconst 0, 1), (343, .istore 13, 2), (345, .iload 13, 2), (347, .iconst 5, 1), (348, .if_icmp .ge 28, 3), (351, .aload_n 0, 1)]
set_option maxRecDepth 100000 in
theorem gv_56_10 : g_okc cL_second gi_56_10 = true := by decide +kernel
def gi_56_11 : List (Nat × Instr × Nat) := [(352, .bipush 10, 2), (354, .iload 13, 2), (356, .iadd, 1), (357, .invokevirtual 34, 3), (360, .aload 5, 2), (362, .iload 13, 2), (364, .iaload, 1), (365, .if_icmp .ge 5, 3), (368, .iconst (-1), 1), (369, .ireturn, 1), (370, .iinc 13 1, 3), (373, .goto (-28), 3), (376, .iload 6, 2), (378, .ifCond .lt 12, 3), (381, .iload 7, 2), (383, .ifCond .ne 7, 3)]
set_option maxRecDepth 100000 in
theorem gv_56_11 : g_okc cL_second gi_56_11 = true := by decide +kernel
def gi_56_12 : List (Nat × Instr × Nat) := [(386, .iconst 1, 1), (387, .goto 4, 3), (390, .iconst 0, 1), (391, .istore 13, 2), (393, .iload 13, 2), (395, .ifCond .ne 49, 3), (398, .iload 11, 2), (400, .ifCond .gt 42, 3), (403, .aload_n 0, 1), (404, .bipush 10, 2), (406, .invokevirtual 34, 3), (409, .aload 5, 2), (411, .iconst 0, 1), (412, .iaload, 1), (413, .if_icmp .gt 29, 3)]
set_option maxRecDepth 100000 in
theorem gv_56_12 : g_okc cL_second gi_56_12 = true := by decide +kernel
def gi_56_13 : List (Nat × Instr × Nat) := [(416, .aload_n 0, 1), (417, .bipush 11, 2), (419, .invokevirtual 34, 3), (422, .aload 5, 2), (424, .iconst 1, 1), (425, .iaload, 1), (426, .if_icmp .gt 16, 3), (429, .aload_n 0, 1), (430, .bipush 14, 2), (432, .invokevirtual 34, 3), (435, .aload 5, 2), (437, .iconst 4, 1), (438, .iaload, 1), (439, .if_icmp .le 5, 3), (442, .iconst (-1), 1), (443, .ireturn, 1), (444, .aload_n 0, 1), (445, .iconst 0, 1), (446, .invokevirtual 34, 3)]
set_option maxRecDepth 100000 in
theorem gv_56_13 : g_okc cL_second gi_56_13 = true := by decide +kernel
def gi_56_14 : List (Nat × Instr × Nat) := [(449, .iload 10, 2), (451, .iconst 1, 1), (452, .iadd, 1), (453, .if_icmp .ne 97, 3), (456, .iload 11, 2), (458, .iload 8, 2), (460, .if_icmp .gt 90, 3), (463, .aload_n 0, 1), (464, .bipush 11, 2), (466, .invokevirtual 34, 3), (469, .aload 5, 2), (471, .iconst 1, 1), (472, .iaload, 1), (473, .iconst 1, 1), (474, .iadd, 1), (475, .if_icmp .gt 75, 3), (478, .aload_n 0, 1), (479, .bipush 11, 2)]
set_option maxRecDepth 100000 in
theorem gv_56_14 : g_okc cL_second gi_56_14 = true := by decide +kernel
def gi_56_15 : List (Nat × Instr × Nat) := [(481, .invokevirtual 34, 3), (484, .aload 5, 2), (486, .iconst 1, 1), (487, .iaload, 1), (488, .if_icmp .le 12, 3), (491, .aload_n 0, 1), (492, .bipush 6, 2), (494, .invokevirtual 34, 3), (497, .ifCond .eq 53, 3), (500, .aload_n 0, 1), (501, .bipush 12, 2), (503, .invokevirtual 34, 3), (506, .aload_n 0, 1), (507, .bipush 13, 2), (509, .invokevirtual 34, 3)]
set_option maxRecDepth 100000 in
theorem gv_56_15 : g_okc cL_second gi_56_15 = true := by decide +kernel
def gi_56_16 : List (Nat × Instr × Nat) := [(512, .iadd, 1), (513, .aload 5, 2), (515, .iconst 2, 1), (516, .iaload, 1), (517, .aload 5, 2), (519, .iconst 3, 1), (520, .iaload, 1), (521, .iadd, 1), (522, .iconst 2, 1), (523, .aload_n 0, 1), (524, .bipush 15, 2), (526, .invokevirtual 34, 3), (529, .invokestatic 117, 3), (532, .imul, 1), (533, .iadd, 1), (534, .if_icmp .gt 16, 3), (537, .aload_n 0, 1), (538, .bipush 9, 2), (540, .invokevirtual 34, 3), (543, .iload 9, 2)]
set_option maxRecDepth 100000 in
theorem gv_56_16 : g_okc cL_second gi_56_16 = true := by decide +kernel
def gi_56_17 : List (Nat × Instr × Nat) := [(545, .iconst 1, 1), (546, .iadd, 1), (547, .if_icmp .le 5, 3), (550, .iconst (-1), 1), (551, .ireturn, 1), (552, .aload_n 0, 1), (553, .bipush 9, 2), (555, .invokevirtual 34, 3), (558, .iload 9, 2), (560, .if_icmp .le 12, 3), (563, .iload 6, 2), (565, .ifCond .ge 7, 3), (568, .iconst (-1), 1), (569, .goto 5, 3), (572, .iload 11, 2), (574, .ireturn, 1)]
set_option maxRecDepth 100000 in
theorem gv_56_17 : g_okc cL_second gi_56_17 = true := by decide +kernel
def gi_56 : List (List (Nat × Instr × Nat)) := [gi_56_0, gi_56_1, gi_56_2, gi_56_3, gi_56_4, gi_56_5, gi_56_6, gi_56_7, gi_56_8, gi_56_9, gi_56_10, gi_56_11, gi_56_12, gi_56_13, gi_56_14, gi_56_15, gi_56_16, gi_56_17]
theorem gv_56 : ∀ ch ∈ gi_56, g_okc cL_second ch = true := List.forall_mem_cons.mpr ⟨gv_56_0, List.forall_mem_cons.mpr ⟨gv_56_1, List.forall_mem_cons.mpr ⟨gv_56_2, List.forall_mem_cons.mpr ⟨gv_56_3, List.forall_mem_cons.mpr ⟨gv_56_4, List.forall_mem_cons.mpr ⟨gv_56_5, List.forall_mem_cons.mpr ⟨gv_56_6, List.forall_mem_cons.mpr ⟨gv_56_7, List.forall_mem_cons.mpr ⟨gv_56_8, List.forall_mem_cons.mpr ⟨gv_56_9, List.forall_mem_cons.mpr ⟨gv_56_10, List.forall_mem_cons.mpr ⟨gv_56_11, List.forall_mem_cons.mpr ⟨gv_56_12, List.forall_mem_cons.mpr ⟨gv_56_13, List.forall_mem_cons.mpr ⟨gv_56_14, List.forall_mem_cons.mpr ⟨gv_56_15, List.forall_mem_cons.mpr ⟨gv_56_16, List.forall_mem_cons.mpr ⟨gv_56_17, fun _ h => absurd h List.not_mem_nil⟩⟩⟩⟩⟩⟩⟩⟩⟩⟩⟩⟩⟩⟩⟩⟩⟩⟩
def gi_57_0 : List (Nat × Instr × Nat) := [(0, .aload_n 0, 1), (1, .getfield 10, 3), (4, .getfield 37, 3), (7, .ifCond .ne 5, 3), (10, .dconst 0, 1), (11, .dreturn, 1), (12, .iconst 0, 1), (13, .istore_n 1, 1), (14, .iconst 0, 1), (15, .istore_n 2, 1), (16, .iload_n 2, 1), (17, .aload_n 0, 1), (18, .getfield 10, 3), (21, .getfield 37, 3), (24, .if_icmp .ge 24, 3), (27, .iload_n 1, 1), (28, .aload_n 0, 1), (29, .getfield 10, 3)]
set_option maxRecDepth 100000 in
theorem gv_57_0 : g_okc cX5_meanHeight gi_57_0 = true := by decide +kernel
def gi_57_1 : List (Nat × Instr × Nat) := [(32, .getfield 46, 3), (35, .iload_n 2, 1), (36, .aaload, 1), (37, .getfield 223, 3), (40, .iadd, 1), (41, .istore_n 1, 1), (42, .iinc 2 1, 3), (45, .goto (-29), 3), (48, .iload_n 1, 1), (49, .i2d, 1), (50, .aload_n 0, 1), (51, .getfield 10, 3), (54, .getfield 37, 3), (57, .i2d, 1), (58, .ddiv, 1), (59, .dreturn, 1)]
set_option maxRecDepth 100000 in
theorem gv_57_1 : g_okc cX5_meanHeight gi_57_1 = true := by decide +kernel
def gi_57 : List (List (Nat × Instr × Nat)) := [gi_57_0, gi_57_1]
theorem gv_57 : ∀ ch ∈ gi_57, g_okc cX5_meanHeight ch = true := List.forall_mem_cons.mpr ⟨gv_57_0, List.forall_mem_cons.mpr ⟨gv_57_1, fun _ h => absurd h List.not_mem_nil⟩⟩
def gi_58_0 : List (Nat × Instr × Nat) := [(0, .dload_n 0, 1), (1, .invokestatic 79, 3), (4, .ldc2_w 135, 3), (7, .land, 1), (8, .invokestatic 166, 3), (11, .dreturn, 1)]
set_option maxRecDepth 100000 in
theorem gv_58_0 : g_okc cJ9_abs_294c1 gi_58_0 = true := by decide +kernel
def gi_58 : List (List (Nat × Instr × Nat)) := [gi_58_0]
theorem gv_58 : ∀ ch ∈ gi_58, g_okc cJ9_abs_294c1 ch = true := List.forall_mem_cons.mpr ⟨gv_58_0, fun _ h => absurd h List.not_mem_nil⟩
def gi_59_0 : List (Nat × Instr × Nat) := [(0, .aload_n 0, 1), (1, .aload_n 1, 1), (2, .getfield 17, 3), (5, .putfield 17, 3), (8, .aload_n 0, 1), (9, .aload_n 1, 1), (10, .getfield 20, 3), (13, .putfield 20, 3), (16, .aload_n 0, 1), (17, .aload_n 1, 1), (18, .getfield 23, 3), (21, .putfield 23, 3), (24, .aload_n 0, 1), (25, .aload_n 1, 1), (26, .getfield 26, 3), (29, .putfield 26, 3)]
set_option maxRecDepth 100000 in
theorem gv_59_0 : g_okc cX0_copyFrom gi_59_0 = true := by decide +kernel
def gi_59_1 : List (Nat × Instr × Nat) := [(32, .aload_n 0, 1), (33, .aload_n 1, 1), (34, .getfield 29, 3), (37, .putfield 29, 3), (40, .aload_n 0, 1), (41, .aload_n 1, 1), (42, .getfield 32, 3), (45, .putfield 32, 3), (48, .aload_n 0, 1), (49, .aload_n 1, 1), (50, .getfield 35, 3), (53, .putfield 35, 3), (56, .aload_n 0, 1), (57, .aload_n 1, 1), (58, .getfield 38, 3), (61, .putfield 38, 3)]
set_option maxRecDepth 100000 in
theorem gv_59_1 : g_okc cX0_copyFrom gi_59_1 = true := by decide +kernel
def gi_59_2 : List (Nat × Instr × Nat) := [(64, .aload_n 0, 1), (65, .aload_n 1, 1), (66, .getfield 7, 3), (69, .putfield 7, 3), (72, .aload_n 0, 1), (73, .aload_n 1, 1), (74, .getfield 41, 3), (77, .putfield 41, 3), (80, .aload_n 0, 1), (81, .aload_n 1, 1), (82, .getfield 44, 3), (85, .putfield 44, 3), (88, .aload_n 0, 1), (89, .aload_n 1, 1), (90, .getfield 47, 3), (93, .putfield 47, 3)]
set_option maxRecDepth 100000 in
theorem gv_59_2 : g_okc cX0_copyFrom gi_59_2 = true := by decide +kernel
def gi_59_3 : List (Nat × Instr × Nat) := [(96, .return_, 1)]
set_option maxRecDepth 100000 in
theorem gv_59_3 : g_okc cX0_copyFrom gi_59_3 = true := by decide +kernel
def gi_59 : List (List (Nat × Instr × Nat)) := [gi_59_0, gi_59_1, gi_59_2, gi_59_3]
theorem gv_59 : ∀ ch ∈ gi_59, g_okc cX0_copyFrom ch = true := List.forall_mem_cons.mpr ⟨gv_59_0, List.forall_mem_cons.mpr ⟨gv_59_1, List.forall_mem_cons.mpr ⟨gv_59_2, List.forall_mem_cons.mpr ⟨gv_59_3, fun _ h => absurd h List.not_mem_nil⟩⟩⟩⟩
def gi_60_0 : List (Nat × Instr × Nat) := [(0, .aload_n 0, 1), (1, .aload_n 1, 1), (2, .getfield 15, 3), (5, .putfield 15, 3), (8, .aload_n 0, 1), (9, .aload_n 1, 1), (10, .getfield 18, 3), (13, .putfield 18, 3), (16, .aload_n 0, 1), (17, .aload_n 1, 1), (18, .getfield 21, 3), (21, .putfield 21, 3), (24, .aload_n 0, 1), (25, .aload_n 1, 1), (26, .getfield 24, 3), (29, .putfield 24, 3)]
set_option maxRecDepth 100000 in
theorem gv_60_0 : g_okc cX2_copyFrom gi_60_0 = true := by decide +kernel
def gi_60_1 : List (Nat × Instr × Nat) := [(32, .aload_n 0, 1), (33, .aload_n 1, 1), (34, .getfield 9, 3), (37, .putfield 9, 3), (40, .aload_n 0, 1), (41, .aload_n 1, 1), (42, .getfield 27, 3), (45, .putfield 27, 3), (48, .return_, 1)]
set_option maxRecDepth 100000 in
theorem gv_60_1 : g_okc cX2_copyFrom gi_60_1 = true := by decide +kernel
def gi_60 : List (List (Nat × Instr × Nat)) := [gi_60_0, gi_60_1]
theorem gv_60 : ∀ ch ∈ gi_60, g_okc cX2_copyFrom ch = true := List.forall_mem_cons.mpr ⟨gv_60_0, List.forall_mem_cons.mpr ⟨gv_60_1, fun _ h => absurd h List.not_mem_nil⟩⟩
def gi_61_0 : List (Nat × Instr × Nat) := [(0, .aload_n 0, 1), (1, .aload_n 1, 1), (2, .getfield 9, 3), (5, .putfield 9, 3), (8, .aload_n 0, 1), (9, .aload_n 1, 1), (10, .getfield 22, 3), (13, .putfield 22, 3), (16, .iconst 0, 1), (17, .istore_n 2, 1), (18, .iload_n 2, 1), (19, .aload_n 0, 1), (20, .getfield 22, 3), (23, .if_icmp .ge 24, 3), (26, .aload_n 0, 1), (27, .getfield 17, 3), (30, .iload_n 2, 1), (31, .aaload, 1)]
set_option maxRecDepth 100000 in
theorem gv_61_0 : g_okc cX1_copyFrom gi_61_0 = true := by decide +kernel
def gi_61_1 : List (Nat × Instr × Nat) := [(32, .aload_n 1, 1), (33, .getfield 17, 3), (36, .iload_n 2, 1), (37, .aaload, 1), (38, .invokevirtual 25, 3), (41, .iinc 2 1, 3), (44, .goto (-26), 3), (47, .return_, 1)]
set_option maxRecDepth 100000 in
theorem gv_61_1 : g_okc cX1_copyFrom gi_61_1 = true := by decide +kernel
def gi_61 : List (List (Nat × Instr × Nat)) := [gi_61_0, gi_61_1]
theorem gv_61 : ∀ ch ∈ gi_61, g_okc cX1_copyFrom ch = true := List.forall_mem_cons.mpr ⟨gv_61_0, List.forall_mem_cons.mpr ⟨gv_61_1, fun _ h => absurd h List.not_mem_nil⟩⟩
def gi_62_0 : List (Nat × Instr × Nat) := [(0, .aload_n 0, 1), (1, .aload_n 1, 1), (2, .getfield 37, 3), (5, .putfield 37, 3), (8, .iconst 0, 1), (9, .istore_n 2, 1), (10, .iload_n 2, 1), (11, .aload_n 0, 1), (12, .getfield 37, 3), (15, .if_icmp .ge 24, 3), (18, .aload_n 0, 1), (19, .getfield 23, 3), (22, .iload_n 2, 1), (23, .aaload, 1), (24, .aload_n 1, 1), (25, .getfield 23, 3), (28, .iload_n 2, 1), (29, .aaload, 1), (30, .invokevirtual 40, 3)]
set_option maxRecDepth 100000 in
theorem gv_62_0 : g_okc cX4_copyFrom gi_62_0 = true := by decide +kernel
def gi_62_1 : List (Nat × Instr × Nat) := [(33, .iinc 2 1, 3), (36, .goto (-26), 3), (39, .aload_n 0, 1), (40, .aload_n 1, 1), (41, .getfield 44, 3), (44, .putfield 44, 3), (47, .iconst 0, 1), (48, .istore_n 2, 1), (49, .iload_n 2, 1), (50, .aload_n 0, 1), (51, .getfield 44, 3), (54, .if_icmp .ge 24, 3), (57, .aload_n 0, 1), (58, .getfield 32, 3), (61, .iload_n 2, 1), (62, .aaload, 1), (63, .aload_n 1, 1)]
set_option maxRecDepth 100000 in
theorem gv_62_1 : g_okc cX4_copyFrom gi_62_1 = true := by decide +kernel
def gi_62_2 : List (Nat × Instr × Nat) := [(64, .getfield 32, 3), (67, .iload_n 2, 1), (68, .aaload, 1), (69, .invokevirtual 47, 3), (72, .iinc 2 1, 3), (75, .goto (-26), 3), (78, .aload_n 0, 1), (79, .aload_n 1, 1), (80, .getfield 9, 3), (83, .putfield 9, 3), (86, .aload_n 0, 1), (87, .aload_n 1, 1), (88, .getfield 50, 3), (91, .putfield 50, 3), (94, .aload_n 0, 1), (95, .aload_n 1, 1)]
set_option maxRecDepth 100000 in
theorem gv_62_2 : g_okc cX4_copyFrom gi_62_2 = true := by decide +kernel
def gi_62_3 : List (Nat × Instr × Nat) := [(96, .getfield 53, 3), (99, .putfield 53, 3), (102, .aload_n 0, 1), (103, .aload_n 1, 1), (104, .getfield 15, 3), (107, .putfield 15, 3), (110, .aload_n 0, 1), (111, .aload_n 1, 1), (112, .getfield 56, 3), (115, .putfield 56, 3), (118, .aload_n 0, 1), (119, .aload_n 1, 1), (120, .getfield 60, 3), (123, .putfield 60, 3), (126, .aload_n 0, 1), (127, .aload_n 1, 1)]
set_option maxRecDepth 100000 in
theorem gv_62_3 : g_okc cX4_copyFrom gi_62_3 = true := by decide +kernel
def gi_62_4 : List (Nat × Instr × Nat) := [(128, .getfield 63, 3), (131, .putfield 63, 3), (134, .aload_n 0, 1), (135, .aload_n 1, 1), (136, .getfield 66, 3), (139, .putfield 66, 3), (142, .aload_n 0, 1), (143, .aload_n 1, 1), (144, .getfield 69, 3), (147, .putfield 69, 3), (150, .aload_n 0, 1), (151, .aload_n 1, 1), (152, .getfield 72, 3), (155, .putfield 72, 3), (158, .aload_n 0, 1), (159, .aload_n 1, 1)]
set_option maxRecDepth 100000 in
theorem gv_62_4 : g_okc cX4_copyFrom gi_62_4 = true := by decide +kernel
def gi_62_5 : List (Nat × Instr × Nat) := [(160, .getfield 75, 3), (163, .putfield 75, 3), (166, .aload_n 0, 1), (167, .aload_n 1, 1), (168, .getfield 78, 3), (171, .putfield 78, 3), (174, .aload_n 0, 1), (175, .aload_n 1, 1), (176, .getfield 81, 3), (179, .putfield 81, 3), (182, .aload_n 0, 1), (183, .iconst (-1), 1), (184, .putfield 18, 3), (187, .return_, 1)]
set_option maxRecDepth 100000 in
theorem gv_62_5 : g_okc cX4_copyFrom gi_62_5 = true := by decide +kernel
def gi_62 : List (List (Nat × Instr × Nat)) := [gi_62_0, gi_62_1, gi_62_2, gi_62_3, gi_62_4, gi_62_5]
theorem gv_62 : ∀ ch ∈ gi_62, g_okc cX4_copyFrom ch = true := List.forall_mem_cons.mpr ⟨gv_62_0, List.forall_mem_cons.mpr ⟨gv_62_1, List.forall_mem_cons.mpr ⟨gv_62_2, List.forall_mem_cons.mpr ⟨gv_62_3, List.forall_mem_cons.mpr ⟨gv_62_4, List.forall_mem_cons.mpr ⟨gv_62_5, fun _ h => absurd h List.not_mem_nil⟩⟩⟩⟩⟩⟩
def gi_63_0 : List (Nat × Instr × Nat) := [(0, .iconst 0, 1), (1, .istore_n 1, 1), (2, .iload_n 1, 1), (3, .aload_n 0, 1), (4, .getfield 37, 3), (7, .if_icmp .ge 19, 3), (10, .aload_n 0, 1), (11, .getfield 23, 3), (14, .iload_n 1, 1), (15, .aaload, 1), (16, .iconst 0, 1), (17, .putfield 93, 3), (20, .iinc 1 1, 3), (23, .goto (-21), 3), (26, .return_, 1)]
set_option maxRecDepth 100000 in
theorem gv_63_0 : g_okc cX4_mendBrakes gi_63_0 = true := by decide +kernel
def gi_63 : List (List (Nat × Instr × Nat)) := [gi_63_0]
theorem gv_63 : ∀ ch ∈ gi_63, g_okc cX4_mendBrakes ch = true := List.forall_mem_cons.mpr ⟨gv_63_0, fun _ h => absurd h List.not_mem_nil⟩
def gi_64_0 : List (Nat × Instr × Nat) := [(0, .aload_n 0, 1), (1, .getfield 16, 3), (4, .aload_n 0, 1), (5, .getfield 10, 3), (8, .invokevirtual 288, 3), (11, .aload_n 0, 1), (12, .getfield 16, 3), (15, .invokevirtual 343, 3), (18, .aload_n 0, 1), (19, .getfield 16, 3), (22, .iload_n 1, 1), (23, .invokevirtual 191, 3), (26, .iconst 1, 1), (27, .istore_n 2, 1), (28, .iload_n 2, 1), (29, .sipush 200, 3)]
set_option maxRecDepth 100000 in
theorem gv_64_0 : g_okc cX5_rehearse gi_64_0 = true := by decide +kernel
def gi_64_1 : List (Nat × Instr × Nat) := [(32, .if_icmp .gt 47, 3), (35, .aload_n 0, 1), (36, .getfield 16, 3), (39, .invokevirtual 220, 3), (42, .aload_n 0, 1), (43, .getfield 16, 3), (46, .getfield 198, 3), (49, .ifCond .eq 5, 3), (52, .iconst (-1), 1), (53, .ireturn, 1), (54, .aload_n 0, 1), (55, .getfield 16, 3), (58, .getfield 258, 3), (61, .aload_n 0, 1), (62, .getfield 10, 3)]
set_option maxRecDepth 100000 in
theorem gv_64_1 : g_okc cX5_rehearse gi_64_1 = true := by decide +kernel
def gi_64_2 : List (Nat × Instr × Nat) := [(65, .getfield 258, 3), (68, .if_icmp .eq 5, 3), (71, .iload_n 2, 1), (72, .ireturn, 1), (73, .iinc 2 1, 3), (76, .goto (-48), 3), (79, .iconst (-1), 1), (80, .ireturn, 1)]
set_option maxRecDepth 100000 in
theorem gv_64_2 : g_okc cX5_rehearse gi_64_2 = true := by decide +kernel
def gi_64 : List (List (Nat × Instr × Nat)) := [gi_64_0, gi_64_1, gi_64_2]
theorem gv_64 : ∀ ch ∈ gi_64, g_okc cX5_rehearse ch = true := List.forall_mem_cons.mpr ⟨gv_64_0, List.forall_mem_cons.mpr ⟨gv_64_1, List.forall_mem_cons.mpr ⟨gv_64_2, fun _ h => absurd h List.not_mem_nil⟩⟩⟩
def gi_65_0 : List (Nat × Instr × Nat) := [(0, .aload_n 0, 1), (1, .iload_n 1, 1), (2, .invokevirtual 279, 3), (5, .ireturn, 1)]
set_option maxRecDepth 100000 in
theorem gv_65_0 : g_okc cX5_secondsFor gi_65_0 = true := by decide +kernel
def gi_65 : List (List (Nat × Instr × Nat)) := [gi_65_0]
theorem gv_65 : ∀ ch ∈ gi_65, g_okc cX5_secondsFor ch = true := List.forall_mem_cons.mpr ⟨gv_65_0, fun _ h => absurd h List.not_mem_nil⟩
def gi_66_0 : List (Nat × Instr × Nat) := [(0, .aload_n 0, 1), (1, .iload_n 1, 1), (2, .invokevirtual 279, 3), (5, .pop, 1), (6, .aload_n 0, 1), (7, .getfield 16, 3), (10, .getfield 283, 3), (13, .ireturn, 1)]
set_option maxRecDepth 100000 in
theorem gv_66_0 : g_okc cX5_stopsAt gi_66_0 = true := by decide +kernel
def gi_66 : List (List (Nat × Instr × Nat)) := [gi_66_0]
theorem gv_66 : ∀ ch ∈ gi_66, g_okc cX5_stopsAt ch = true := List.forall_mem_cons.mpr ⟨gv_66_0, fun _ h => absurd h List.not_mem_nil⟩
def gi_67_0 : List (Nat × Instr × Nat) := [(0, .iload_n 1, 1), (1, .iconst 1, 1), (2, .if_icmp .lt 9, 3), (5, .iload_n 1, 1), (6, .bipush 60, 2), (8, .if_icmp .le 14, 3), (11, .new 30, 3), (14, .dup, 1), (15, .ldc_w 286, 3), (18, .invokespecial 34, 3), (21, .athrow, 1), (22, .aload_n 0, 1), (23, .getfield 16, 3), (26, .aload_n 0, 1), (27, .getfield 10, 3), (30, .invokevirtual 288, 3)]
set_option maxRecDepth 100000 in
theorem gv_67_0 : g_okc cX5_wouldHurt gi_67_0 = true := by decide +kernel
def gi_67_1 : List (Nat × Instr × Nat) := [(33, .iconst 0, 1), (34, .istore_n 2, 1), (35, .iload_n 2, 1), (36, .iload_n 1, 1), (37, .if_icmp .ge 16, 3), (40, .aload_n 0, 1), (41, .getfield 16, 3), (44, .invokevirtual 220, 3), (47, .iinc 2 1, 3), (50, .goto (-15), 3), (53, .aload_n 0, 1), (54, .getfield 16, 3), (57, .getfield 270, 3), (60, .aload_n 0, 1), (61, .getfield 10, 3)]
set_option maxRecDepth 100000 in
theorem gv_67_1 : g_okc cX5_wouldHurt gi_67_1 = true := by decide +kernel
def gi_67_2 : List (Nat × Instr × Nat) := [(64, .getfield 270, 3), (67, .isub, 1), (68, .ireturn, 1)]
set_option maxRecDepth 100000 in
theorem gv_67_2 : g_okc cX5_wouldHurt gi_67_2 = true := by decide +kernel
def gi_67 : List (List (Nat × Instr × Nat)) := [gi_67_0, gi_67_1, gi_67_2]
theorem gv_67 : ∀ ch ∈ gi_67, g_okc cX5_wouldHurt ch = true := List.forall_mem_cons.mpr ⟨gv_67_0, List.forall_mem_cons.mpr ⟨gv_67_1, List.forall_mem_cons.mpr ⟨gv_67_2, fun _ h => absurd h List.not_mem_nil⟩⟩⟩
def gi_68_0 : List (Nat × Instr × Nat) := [(0, .iconst 0, 1), (1, .istore_n 2, 1), (2, .iconst 0, 1), (3, .istore_n 3, 1), (4, .iconst 0, 1), (5, .istore 4, 2), (7, .iload 4, 2), (9, .iload_n 1, 1), (10, .if_icmp .ge 360, 3), (13, .iconst 0, 1), (14, .istore 5, 2), (16, .iconst 0, 1), (17, .istore 6, 2), (19, .iconst 0, 1), (20, .istore 7, 2), (22, .iconst 0, 1), (23, .istore 8, 2), (25, .iload 8, 2), (27, .bipush 8, 2), (29, .if_icmp .ge 64, 3)]
set_option maxRecDepth 100000 in
theorem gv_68_0 : g_okc cL_isSo gi_68_0 = true := by decide +kernel
def gi_68_1 : List (Nat × Instr × Nat) := [(32, .aload_n 0, 1), (33, .iload 8, 2), (35, .iconst 3, 1), (36, .invokevirtual 40, 3), (39, .iload 4, 2), (41, .if_icmp .eq 6, 3), (44, .goto 43, 3), (47, .iload 5, 2), (49, .aload_n 0, 1), (50, .iload 8, 2), (52, .iconst 0, 1), (53, .invokevirtual 40, 3), (56, .iadd, 1), (57, .istore 5, 2), (59, .iload 6, 2), (61, .aload_n 0, 1), (62, .iload 8, 2)]
set_option maxRecDepth 100000 in
theorem gv_68_1 : g_okc cL_isSo gi_68_1 = true := by decide +kernel
def gi_68_2 : List (Nat × Instr × Nat) := [(64, .iconst 1, 1), (65, .invokevirtual 40, 3), (68, .invokestatic 49, 3), (71, .istore 6, 2), (73, .iload 7, 2), (75, .aload_n 0, 1), (76, .iload 8, 2), (78, .iconst 2, 1), (79, .invokevirtual 40, 3), (82, .invokestatic 49, 3), (85, .istore 7, 2), (87, .iinc 8 1, 3), (90, .goto (-65), 3), (93, .aload_n 0, 1), (94, .iload 4, 2)]
set_option maxRecDepth 100000 in
theorem gv_68_2 : g_okc cL_isSo gi_68_2 = true := by decide +kernel
def gi_68_3 : List (Nat × Instr × Nat) := [(96, .iconst 0, 1), (97, .invokevirtual 37, 3), (100, .iconst 1, 1), (101, .if_icmp .ne 7, 3), (104, .iconst 1, 1), (105, .goto 4, 3), (108, .iconst 0, 1), (109, .istore 8, 2), (111, .iload_n 2, 1), (112, .aload_n 0, 1), (113, .iload 4, 2), (115, .bipush 10, 2), (117, .invokevirtual 37, 3), (120, .iload 4, 2), (122, .ishl, 1), (123, .ior, 1), (124, .istore_n 2, 1), (125, .iload_n 3, 1), (126, .aload_n 0, 1), (127, .iload 4, 2)]
set_option maxRecDepth 100000 in
theorem gv_68_3 : g_okc cL_isSo gi_68_3 = true := by decide +kernel
def gi_68_4 : List (Nat × Instr × Nat) := [(129, .iconst 2, 1), (130, .invokevirtual 37, 3), (133, .iadd, 1), (134, .istore_n 3, 1), (135, .aload_n 0, 1), (136, .iload 4, 2), (138, .iconst 2, 1), (139, .invokevirtual 37, 3), (142, .ifCond .lt 105, 3), (145, .aload_n 0, 1), (146, .iload 4, 2), (148, .iconst 2, 1), (149, .invokevirtual 37, 3), (152, .bipush 120, 2), (154, .if_icmp .gt 93, 3), (157, .aload_n 0, 1), (158, .iload 4, 2)]
set_option maxRecDepth 100000 in
theorem gv_68_4 : g_okc cL_isSo gi_68_4 = true := by decide +kernel
def gi_68_5 : List (Nat × Instr × Nat) := [(160, .iconst 4, 1), (161, .invokevirtual 37, 3), (164, .iload 5, 2), (166, .if_icmp .ne 81, 3), (169, .iload 5, 2), (171, .aload_n 0, 1), (172, .iload 4, 2), (174, .iconst 1, 1), (175, .invokevirtual 37, 3), (178, .if_icmp .gt 69, 3), (181, .aload_n 0, 1), (182, .iload 4, 2), (184, .iconst 5, 1), (185, .invokevirtual 37, 3), (188, .iload 6, 2), (190, .if_icmp .ne 57, 3)]
set_option maxRecDepth 100000 in
theorem gv_68_5 : g_okc cL_isSo gi_68_5 = true := by decide +kernel
def gi_68_6 : List (Nat × Instr × Nat) := [(193, .aload_n 0, 1), (194, .iload 4, 2), (196, .bipush 6, 2), (198, .invokevirtual 37, 3), (201, .iload 7, 2), (203, .if_icmp .ne 44, 3), (206, .aload_n 0, 1), (207, .iload 4, 2), (209, .bipush 7, 2), (211, .invokevirtual 37, 3), (214, .iload 8, 2), (216, .ifCond .eq 7, 3), (219, .iconst 0, 1), (220, .goto 13, 3), (223, .iload 5, 2)]
set_option maxRecDepth 100000 in
theorem gv_68_6 : g_okc cL_isSo gi_68_6 = true := by decide +kernel
def gi_68_7 : List (Nat × Instr × Nat) := [(225, .aload_n 0, 1), (226, .iload 4, 2), (228, .iconst 3, 1), (229, .invokevirtual 37, 3), (232, .isub, 1), (233, .if_icmp .ne 14, 3), (236, .aload_n 0, 1), (237, .iload 4, 2), (239, .iload 4, 2), (241, .invokevirtual 107, 3), (244, .ifCond .eq 5, 3), (247, .iconst 0, 1), (248, .ireturn, 1), (249, .iconst 0, 1), (250, .istore 9, 2), (252, .iload 9, 2), (254, .iload 4, 2)]
set_option maxRecDepth 100000 in
theorem gv_68_7 : g_okc cL_isSo gi_68_7 = true := by decide +kernel
def gi_68_8 : List (Nat × Instr × Nat) := [(256, .if_icmp .ge 108, 3), (259, .iload 4, 2), (261, .iload 9, 2), (263, .isub, 1), (264, .iload 7, 2), (266, .aload_n 0, 1), (267, .iload 9, 2), (269, .bipush 6, 2), (271, .invokevirtual 37, 3), (274, .iadd, 1), (275, .if_icmp .gt 52, 3), (278, .aload_n 0, 1), (279, .iload 4, 2), (281, .iconst 2, 1), (282, .invokevirtual 37, 3), (285, .iload 6, 2), (287, .isub, 1)]
set_option maxRecDepth 100000 in
theorem gv_68_8 : g_okc cL_isSo gi_68_8 = true := by decide +kernel
def gi_68_9 : List (Nat × Instr × Nat) := [(288, .aload_n 0, 1), (289, .iload 9, 2), (291, .iconst 2, 1), (292, .invokevirtual 37, 3), (295, .if_icmp .gt 32, 3), (298, .aload_n 0, 1), (299, .iload 9, 2), (301, .iconst 2, 1), (302, .invokevirtual 37, 3), (305, .aload_n 0, 1), (306, .iload 9, 2), (308, .iconst 5, 1), (309, .invokevirtual 37, 3), (312, .isub, 1), (313, .aload_n 0, 1), (314, .iload 4, 2), (316, .iconst 2, 1), (317, .invokevirtual 37, 3)]
set_option maxRecDepth 100000 in
theorem gv_68_9 : g_okc cL_isSo gi_68_9 = true := by decide +kernel
def gi_68_10 : List (Nat × Instr × Nat) := [(320, .if_icmp .gt 7, 3), (323, .iconst 1, 1), (324, .goto 4, 3), (327, .iconst 0, 1), (328, .istore 10, 2), (330, .aload_n 0, 1), (331, .iload 4, 2), (333, .iload 9, 2), (335, .invokevirtual 107, 3), (338, .iload 10, 2), (340, .if_icmp .ne 16, 3), (343, .aload_n 0, 1), (344, .iload 9, 2), (346, .iload 4, 2), (348, .invokevirtual 107, 3), (351, .iload 10, 2)]
set_option maxRecDepth 100000 in
theorem gv_68_10 : g_okc cL_isSo gi_68_10 = true := by decide +kernel
def gi_68_11 : List (Nat × Instr × Nat) := [(353, .if_icmp .eq 5, 3), (356, .iconst 0, 1), (357, .ireturn, 1), (358, .iinc 9 1, 3), (361, .goto (-109), 3), (364, .iinc 4 1, 3), (367, .goto (-360), 3), (370, .aload_n 0, 1), (371, .iconst 5, 1), (372, .invokevirtual 34, 3), (375, .istore 4, 2), (377, .iconst 0, 1), (378, .istore 5, 2), (380, .iconst 0, 1), (381, .istore 6, 2), (383, .iload 4, 2)]
set_option maxRecDepth 100000 in
theorem gv_68_11 : g_okc cL_isSo gi_68_11 = true := by decide +kernel
def gi_68_12 : List (Nat × Instr × Nat) := [(385, .ifCond .lt 65, 3), (388, .iload 6, 2), (390, .aload_n 0, 1), (391, .iload 4, 2), (393, .invokestatic 57, 3), (396, .if_icmp .ge 54, 3), (399, .aload_n 0, 1), (400, .iload 4, 2), (402, .iload 6, 2), (404, .iconst 4, 1), (405, .invokevirtual 65, 3), (408, .istore 7, 2), (410, .iload 5, 2), (412, .iload 7, 2), (414, .ifCond .ne 7, 3)]
set_option maxRecDepth 100000 in
theorem gv_68_12 : g_okc cL_isSo gi_68_12 = true := by decide +kernel
def gi_68_13 : List (Nat × Instr × Nat) := [(417, .iconst 1, 1), (418, .goto 4, 3), (421, .iconst 0, 1), (422, .iadd, 1), (423, .istore 5, 2), (425, .iload 7, 2), (427, .ifCond .lt 15, 3), (430, .aload_n 0, 1), (431, .iload 4, 2), (433, .iload 6, 2), (435, .iconst 5, 1), (436, .invokevirtual 65, 3), (439, .ifCond .ge 5, 3), (442, .iconst 0, 1), (443, .ireturn, 1), (444, .iinc 6 1, 3), (447, .goto (-64), 3)]
set_option maxRecDepth 100000 in
theorem gv_68_13 : g_okc cL_isSo gi_68_13 = true := by decide +kernel
def gi_68_14 : List (Nat × Instr × Nat) := [(450, .aload_n 0, 1), (451, .bipush 15, 2), (453, .invokevirtual 34, 3), (456, .iload_n 2, 1), (457, .if_icmp .ne 74, 3), (460, .aload_n 0, 1), (461, .bipush 8, 2), (463, .invokevirtual 34, 3), (466, .iload 5, 2), (468, .if_icmp .ne 63, 3), (471, .iload 4, 2), (473, .ifCond .ge 19, 3), (476, .aload_n 0, 1), (477, .bipush 7, 2), (479, .invokevirtual 34, 3)]
set_option maxRecDepth 100000 in
theorem gv_68_14 : g_okc cL_isSo gi_68_14 = true := by decide +kernel
def gi_68_15 : List (Nat × Instr × Nat) := [(482, .aload_n 0, 1), (483, .bipush 6, 2), (485, .invokevirtual 34, 3), (488, .iadd, 1), (489, .ifCond .ne 42, 3), (492, .iload 4, 2), (494, .ifCond .lt 17, 3), (497, .iload 5, 2), (499, .ifCond .ne 12, 3), (502, .aload_n 0, 1), (503, .bipush 7, 2), (505, .invokevirtual 34, 3), (508, .ifCond .ne 23, 3), (511, .aload_n 0, 1)]
set_option maxRecDepth 100000 in
theorem gv_68_15 : g_okc cL_isSo gi_68_15 = true := by decide +kernel
def gi_68_16 : List (Nat × Instr × Nat) := [(512, .invokevirtual 122, 3), (515, .iload_n 1, 1), (516, .i2d, 1), (517, .dmul, 1), (518, .iload_n 3, 1), (519, .i2d, 1), (520, .dsub, 1), (521, .invokestatic 126, 3), (524, .ldc2_w 129, 3), (527, .dcmp .l, 1), (528, .ifCond .le 5, 3), (531, .iconst 0, 1), (532, .ireturn, 1), (533, .iconst 0, 1), (534, .istore 6, 2), (536, .iload 6, 2), (538, .iconst 4, 1), (539, .if_icmp .ge 71, 3), (542, .aload_n 0, 1), (543, .iload 6, 2)]
set_option maxRecDepth 100000 in
theorem gv_68_16 : g_okc cL_isSo gi_68_16 = true := by decide +kernel
def gi_68_17 : List (Nat × Instr × Nat) := [(545, .invokevirtual 131, 3), (548, .istore 7, 2), (550, .aload_n 0, 1), (551, .iload 6, 2), (553, .invokevirtual 134, 3), (556, .istore 8, 2), (558, .iload 7, 2), (560, .ifCond .eq 42, 3), (563, .iload 7, 2), (565, .sipush 200, 3), (568, .if_icmp .gt 34, 3), (571, .iload 7, 2), (573, .ifCond .lt 8, 3)]
set_option maxRecDepth 100000 in
theorem gv_68_17 : g_okc cL_isSo gi_68_17 = true := by decide +kernel
def gi_68_18 : List (Nat × Instr × Nat) := [(576, .iload 8, 2), (578, .ifCond .ge 24, 3), (581, .iload 8, 2), (583, .iload_n 1, 1), (584, .if_icmp .ge 18, 3), (587, .aload_n 0, 1), (588, .iload 6, 2), (590, .invokestatic 57, 3), (593, .ifCond .ne 11, 3), (596, .iload 7, 2), (598, .iconst 1, 1), (599, .if_icmp .eq 5, 3), (602, .iconst 0, 1), (603, .ireturn, 1), (604, .iinc 6 1, 3), (607, .goto (-71), 3)]
set_option maxRecDepth 100000 in
theorem gv_68_18 : g_okc cL_isSo gi_68_18 = true := by decide +kernel
def gi_68_19 : List (Nat × Instr × Nat) := [(610, .aload_n 0, 1), (611, .iconst 5, 1), (612, .invokevirtual 137, 3), (615, .ifCond .lt 18, 3), (618, .aload_n 0, 1), (619, .iconst 5, 1), (620, .invokevirtual 137, 3), (623, .iconst 5, 1), (624, .iload_n 1, 1), (625, .imul, 1), (626, .if_icmp .gt 7, 3), (629, .iconst 1, 1), (630, .goto 4, 3), (633, .iconst 0, 1), (634, .ireturn, 1)]
set_option maxRecDepth 100000 in
theorem gv_68_19 : g_okc cL_isSo gi_68_19 = true := by decide +kernel
def gi_68 : List (List (Nat × Instr × Nat)) := [gi_68_0, gi_68_1, gi_68_2, gi_68_3, gi_68_4, gi_68_5, gi_68_6, gi_68_7, gi_68_8, gi_68_9, gi_68_10, gi_68_11, gi_68_12, gi_68_13, gi_68_14, gi_68_15, gi_68_16, gi_68_17, gi_68_18, gi_68_19]
theorem gv_68 : ∀ ch ∈ gi_68, g_okc cL_isSo ch = true := List.forall_mem_cons.mpr ⟨gv_68_0, List.forall_mem_cons.mpr ⟨gv_68_1, List.forall_mem_cons.mpr ⟨gv_68_2, List.forall_mem_cons.mpr ⟨gv_68_3, List.forall_mem_cons.mpr ⟨gv_68_4, List.forall_mem_cons.mpr ⟨gv_68_5, List.forall_mem_cons.mpr ⟨gv_68_6, List.forall_mem_cons.mpr ⟨gv_68_7, List.forall_mem_cons.mpr ⟨gv_68_8, List.forall_mem_cons.mpr ⟨gv_68_9, List.forall_mem_cons.mpr ⟨gv_68_10, List.forall_mem_cons.mpr ⟨gv_68_11, List.forall_mem_cons.mpr ⟨gv_68_12, List.forall_mem_cons.mpr ⟨gv_68_13, List.forall_mem_cons.mpr ⟨gv_68_14, List.forall_mem_cons.mpr ⟨gv_68_15, List.forall_mem_cons.mpr ⟨gv_68_16, List.forall_mem_cons.mpr ⟨gv_68_17, List.forall_mem_cons.mpr ⟨gv_68_18, List.forall_mem_cons.mpr ⟨gv_68_19, fun _ h => absurd h List.not_mem_nil⟩⟩⟩⟩⟩⟩⟩⟩⟩⟩⟩⟩⟩⟩⟩⟩⟩⟩⟩⟩
def gi_69_0 : List (Nat × Instr × Nat) := [(0, .lload_n 1, 1), (1, .lstore 4, 2), (3, .aload_n 0, 1), (4, .getfield 10, 3), (7, .iload_n 3, 1), (8, .invokevirtual 98, 3), (11, .getfield 117, 3), (14, .istore 6, 2), (16, .iconst 0, 1), (17, .istore 7, 2), (19, .iload 7, 2), (21, .iload 6, 2), (23, .if_icmp .ge 44, 3), (26, .iconst 0, 1), (27, .istore 8, 2), (29, .iload 8, 2), (31, .bipush 6, 2)]
set_option maxRecDepth 100000 in
theorem gv_69_0 : g_okc cX5_digestOfMoves gi_69_0 = true := by decide +kernel
def gi_69_1 : List (Nat × Instr × Nat) := [(33, .if_icmp .ge 28, 3), (36, .lload 4, 2), (38, .ldc2_w 304, 3), (41, .lmul, 1), (42, .aload_n 0, 1), (43, .iload_n 3, 1), (44, .iload 7, 2), (46, .iload 8, 2), (48, .invokevirtual 325, 3), (51, .i2l, 1), (52, .ladd, 1), (53, .lstore 4, 2), (55, .iinc 8 1, 3), (58, .goto (-29), 3), (61, .iinc 7 1, 3)]
set_option maxRecDepth 100000 in
theorem gv_69_1 : g_okc cX5_digestOfMoves gi_69_1 = true := by decide +kernel
def gi_69_2 : List (Nat × Instr × Nat) := [(64, .goto (-45), 3), (67, .lload 4, 2), (69, .lreturn, 1)]
set_option maxRecDepth 100000 in
theorem gv_69_2 : g_okc cX5_digestOfMoves gi_69_2 = true := by decide +kernel
def gi_69 : List (List (Nat × Instr × Nat)) := [gi_69_0, gi_69_1, gi_69_2]
theorem gv_69 : ∀ ch ∈ gi_69, g_okc cX5_digestOfMoves ch = true := List.forall_mem_cons.mpr ⟨gv_69_0, List.forall_mem_cons.mpr ⟨gv_69_1, List.forall_mem_cons.mpr ⟨gv_69_2, fun _ h => absurd h List.not_mem_nil⟩⟩⟩
def gi_70_0 : List (Nat × Instr × Nat) := [(0, .iload_n 0, 1), (1, .iload_n 1, 1), (2, .ishr, 1), (3, .iconst 1, 1), (4, .iand, 1), (5, .iconst 1, 1), (6, .if_icmp .ne 7, 3), (9, .iconst 1, 1), (10, .goto 4, 3), (13, .iconst 0, 1), (14, .ireturn, 1)]
set_option maxRecDepth 100000 in
theorem gv_70_0 : g_okc cX5_isIn gi_70_0 = true := by decide +kernel
def gi_70 : List (List (Nat × Instr × Nat)) := [gi_70_0]
theorem gv_70 : ∀ ch ∈ gi_70, g_okc cX5_isIn ch = true := List.forall_mem_cons.mpr ⟨gv_70_0, fun _ h => absurd h List.not_mem_nil⟩
def gi_71_0 : List (Nat × Instr × Nat) := [(0, .iconst 0, 1), (1, .istore 4, 2), (3, .iload 4, 2), (5, .iload_n 1, 1), (6, .if_icmp .ge 56, 3), (9, .aload_n 0, 1), (10, .getfield 21, 3), (13, .iload 4, 2), (15, .aaload, 1), (16, .getfield 79, 3), (19, .aload_n 0, 1), (20, .getfield 21, 3), (23, .iload_n 1, 1), (24, .aaload, 1), (25, .getfield 79, 3), (28, .iadd, 1), (29, .istore 5, 2), (31, .iload_n 3, 1)]
set_option maxRecDepth 100000 in
theorem gv_71_0 : g_okc cX5_isBehindFormer gi_71_0 = true := by decide +kernel
def gi_71_1 : List (Nat × Instr × Nat) := [(32, .iload 4, 2), (34, .invokestatic 294, 3), (37, .ifCond .eq 19, 3), (40, .iload_n 2, 1), (41, .aload_n 0, 1), (42, .getfield 26, 3), (45, .iload 4, 2), (47, .iaload, 1), (48, .isub, 1), (49, .iload 5, 2), (51, .if_icmp .gt 5, 3), (54, .iconst 0, 1), (55, .ireturn, 1), (56, .iinc 4 1, 3), (59, .goto (-56), 3), (62, .iconst 1, 1), (63, .ireturn, 1)]
set_option maxRecDepth 100000 in
theorem gv_71_1 : g_okc cX5_isBehindFormer gi_71_1 = true := by decide +kernel
def gi_71 : List (List (Nat × Instr × Nat)) := [gi_71_0, gi_71_1]
theorem gv_71 : ∀ ch ∈ gi_71, g_okc cX5_isBehindFormer ch = true := List.forall_mem_cons.mpr ⟨gv_71_0, List.forall_mem_cons.mpr ⟨gv_71_1, fun _ h => absurd h List.not_mem_nil⟩⟩
def gi_72_0 : List (Nat × Instr × Nat) := [(0, .iconst 0, 1), (1, .istore_n 3, 1), (2, .iload_n 3, 1), (3, .aload_n 0, 1), (4, .getfield 10, 3), (7, .getfield 37, 3), (10, .if_icmp .ge 45, 3), (13, .aload_n 0, 1), (14, .getfield 21, 3), (17, .iload_n 1, 1), (18, .aaload, 1), (19, .getfield 73, 3), (22, .aload_n 0, 1), (23, .getfield 10, 3), (26, .getfield 46, 3), (29, .iload_n 3, 1), (30, .aaload, 1), (31, .getfield 56, 3)]
set_option maxRecDepth 100000 in
theorem gv_72_0 : g_okc cX5_smallestPlace gi_72_0 = true := by decide +kernel
def gi_72_1 : List (Nat × Instr × Nat) := [(34, .if_icmp .gt 15, 3), (37, .aload_n 0, 1), (38, .iload_n 1, 1), (39, .iload_n 3, 1), (40, .iload_n 2, 1), (41, .invokevirtual 346, 3), (44, .ifCond .eq 5, 3), (47, .iload_n 3, 1), (48, .ireturn, 1), (49, .iinc 3 1, 3), (52, .goto (-50), 3), (55, .iconst (-1), 1), (56, .ireturn, 1)]
set_option maxRecDepth 100000 in
theorem gv_72_1 : g_okc cX5_smallestPlace gi_72_1 = true := by decide +kernel
def gi_72 : List (List (Nat × Instr × Nat)) := [gi_72_0, gi_72_1]
theorem gv_72 : ∀ ch ∈ gi_72, g_okc cX5_smallestPlace ch = true := List.forall_mem_cons.mpr ⟨gv_72_0, List.forall_mem_cons.mpr ⟨gv_72_1, fun _ h => absurd h List.not_mem_nil⟩⟩
def gi_73_0 : List (Nat × Instr × Nat) := [(0, .iload_n 1, 1), (1, .aload_n 0, 1), (2, .getfield 68, 3), (5, .iushr, 1), (6, .ifCond .eq 14, 3), (9, .new 30, 3), (12, .dup, 1), (13, .ldc_w 292, 3), (16, .invokespecial 34, 3), (19, .athrow, 1), (20, .iconst 0, 1), (21, .istore_n 2, 1), (22, .iconst 0, 1), (23, .istore_n 3, 1), (24, .iload_n 3, 1), (25, .aload_n 0, 1), (26, .getfield 68, 3), (29, .if_icmp .ge 48, 3)]
set_option maxRecDepth 100000 in
theorem gv_73_0 : g_okc cX5_fits gi_73_0 = true := by decide +kernel
def gi_73_1 : List (Nat × Instr × Nat) := [(32, .iload_n 1, 1), (33, .iload_n 3, 1), (34, .invokestatic 294, 3), (37, .ifCond .eq 34, 3), (40, .aload_n 0, 1), (41, .iload_n 3, 1), (42, .iload_n 1, 1), (43, .invokevirtual 298, 3), (46, .istore 4, 2), (48, .iload 4, 2), (50, .iconst (-1), 1), (51, .if_icmp .ne 5, 3), (54, .iconst 0, 1), (55, .ireturn, 1), (56, .aload_n 0, 1), (57, .getfield 26, 3), (60, .iload_n 3, 1), (61, .iload 4, 2), (63, .iastore, 1)]
set_option maxRecDepth 100000 in
theorem gv_73_1 : g_okc cX5_fits gi_73_1 = true := by decide +kernel
def gi_73_2 : List (Nat × Instr × Nat) := [(64, .iload_n 2, 1), (65, .iconst 1, 1), (66, .iload 4, 2), (68, .ishl, 1), (69, .ior, 1), (70, .istore_n 2, 1), (71, .iinc 3 1, 3), (74, .goto (-50), 3), (77, .iload_n 2, 1), (78, .ireturn, 1)]
set_option maxRecDepth 100000 in
theorem gv_73_2 : g_okc cX5_fits gi_73_2 = true := by decide +kernel
def gi_73 : List (List (Nat × Instr × Nat)) := [gi_73_0, gi_73_1, gi_73_2]
theorem gv_73 : ∀ ch ∈ gi_73, g_okc cX5_fits ch = true := List.forall_mem_cons.mpr ⟨gv_73_0, List.forall_mem_cons.mpr ⟨gv_73_1, List.forall_mem_cons.mpr ⟨gv_73_2, fun _ h => absurd h List.not_mem_nil⟩⟩⟩
def gi_74_0 : List (Nat × Instr × Nat) := [(0, .ldc2_w 302, 3), (3, .lstore_n 1, 1), (4, .iconst 0, 1), (5, .istore_n 3, 1), (6, .iload_n 3, 1), (7, .bipush 16, 2), (9, .if_icmp .ge 22, 3), (12, .lload_n 1, 1), (13, .ldc2_w 304, 3), (16, .lmul, 1), (17, .aload_n 0, 1), (18, .iload_n 3, 1), (19, .invokevirtual 306, 3), (22, .i2l, 1), (23, .ladd, 1), (24, .lstore_n 1, 1), (25, .iinc 3 1, 3), (28, .goto (-22), 3), (31, .iconst 0, 1)]
set_option maxRecDepth 100000 in
theorem gv_74_0 : g_okc cX5_digest gi_74_0 = true := by decide +kernel
def gi_74_1 : List (Nat × Instr × Nat) := [(32, .istore_n 3, 1), (33, .iload_n 3, 1), (34, .aload_n 0, 1), (35, .getfield 10, 3), (38, .getfield 37, 3), (41, .if_icmp .ge 40, 3), (44, .iconst 0, 1), (45, .istore 4, 2), (47, .iload 4, 2), (49, .bipush 12, 2), (51, .if_icmp .ge 24, 3), (54, .lload_n 1, 1), (55, .ldc2_w 304, 3), (58, .lmul, 1), (59, .aload_n 0, 1), (60, .iload_n 3, 1), (61, .iload 4, 2), (63, .invokevirtual 309, 3)]
set_option maxRecDepth 100000 in
theorem gv_74_1 : g_okc cX5_digest gi_74_1 = true := by decide +kernel
def gi_74_2 : List (Nat × Instr × Nat) := [(66, .i2l, 1), (67, .ladd, 1), (68, .lstore_n 1, 1), (69, .iinc 4 1, 3), (72, .goto (-25), 3), (75, .iinc 3 1, 3), (78, .goto (-45), 3), (81, .iconst 0, 1), (82, .istore_n 3, 1), (83, .iload_n 3, 1), (84, .aload_n 0, 1), (85, .getfield 68, 3), (88, .if_icmp .ge 39, 3), (91, .iconst 0, 1), (92, .istore 4, 2), (94, .iload 4, 2)]
set_option maxRecDepth 100000 in
theorem gv_74_2 : g_okc cX5_digest gi_74_2 = true := by decide +kernel
def gi_74_3 : List (Nat × Instr × Nat) := [(96, .iconst 4, 1), (97, .if_icmp .ge 24, 3), (100, .lload_n 1, 1), (101, .ldc2_w 304, 3), (104, .lmul, 1), (105, .aload_n 0, 1), (106, .iload_n 3, 1), (107, .iload 4, 2), (109, .invokevirtual 312, 3), (112, .i2l, 1), (113, .ladd, 1), (114, .lstore_n 1, 1), (115, .iinc 4 1, 3), (118, .goto (-24), 3), (121, .iinc 3 1, 3), (124, .goto (-41), 3), (127, .iconst 0, 1)]
set_option maxRecDepth 100000 in
theorem gv_74_3 : g_okc cX5_digest gi_74_3 = true := by decide +kernel
def gi_74_4 : List (Nat × Instr × Nat) := [(128, .istore_n 3, 1), (129, .iload_n 3, 1), (130, .aload_n 0, 1), (131, .getfield 10, 3), (134, .getfield 84, 3), (137, .if_icmp .ge 44, 3), (140, .aload_n 0, 1), (141, .lload_n 1, 1), (142, .iload_n 3, 1), (143, .invokevirtual 315, 3), (146, .lstore_n 1, 1), (147, .lload_n 1, 1), (148, .ldc2_w 304, 3), (151, .lmul, 1), (152, .aload_n 0, 1), (153, .iload_n 3, 1), (154, .invokevirtual 279, 3), (157, .i2l, 1), (158, .ladd, 1), (159, .lstore_n 1, 1)]
set_option maxRecDepth 100000 in
theorem gv_74_4 : g_okc cX5_digest gi_74_4 = true := by decide +kernel
def gi_74_5 : List (Nat × Instr × Nat) := [(160, .lload_n 1, 1), (161, .ldc2_w 304, 3), (164, .lmul, 1), (165, .aload_n 0, 1), (166, .getfield 16, 3), (169, .getfield 283, 3), (172, .i2l, 1), (173, .ladd, 1), (174, .lstore_n 1, 1), (175, .iinc 3 1, 3), (178, .goto (-49), 3), (181, .lload_n 1, 1), (182, .ldc2_w 304, 3), (185, .lmul, 1), (186, .aload_n 0, 1), (187, .bipush 9, 2), (189, .invokevirtual 319, 3)]
set_option maxRecDepth 100000 in
theorem gv_74_5 : g_okc cX5_digest gi_74_5 = true := by decide +kernel
def gi_74_6 : List (Nat × Instr × Nat) := [(192, .i2l, 1), (193, .ladd, 1), (194, .lstore_n 1, 1), (195, .lload_n 1, 1), (196, .ldc2_w 304, 3), (199, .lmul, 1), (200, .aload_n 0, 1), (201, .iconst 1, 1), (202, .aload_n 0, 1), (203, .getfield 68, 3), (206, .ishl, 1), (207, .iconst 1, 1), (208, .isub, 1), (209, .invokevirtual 322, 3), (212, .i2l, 1), (213, .ladd, 1), (214, .lreturn, 1)]
set_option maxRecDepth 100000 in
theorem gv_74_6 : g_okc cX5_digest gi_74_6 = true := by decide +kernel
def gi_74 : List (List (Nat × Instr × Nat)) := [gi_74_0, gi_74_1, gi_74_2, gi_74_3, gi_74_4, gi_74_5, gi_74_6]
theorem gv_74 : ∀ ch ∈ gi_74, g_okc cX5_digest ch = true := List.forall_mem_cons.mpr ⟨gv_74_0, List.forall_mem_cons.mpr ⟨gv_74_1, List.forall_mem_cons.mpr ⟨gv_74_2, List.forall_mem_cons.mpr ⟨gv_74_3, List.forall_mem_cons.mpr ⟨gv_74_4, List.forall_mem_cons.mpr ⟨gv_74_5, List.forall_mem_cons.mpr ⟨gv_74_6, fun _ h => absurd h List.not_mem_nil⟩⟩⟩⟩⟩⟩⟩
def gi_75_0 : List (Nat × Instr × Nat) := [(0, .new 9, 3), (3, .dup, 1), (4, .invokespecial 11, 3), (7, .astore_n 1, 1), (8, .iconst 2, 1), (9, .aload_n 0, 1), (10, .iconst 0, 1), (11, .invokestatic 12, 3), (14, .bipush 7, 2), (16, .invokestatic 18, 3), (19, .iadd, 1), (20, .istore_n 2, 1), (21, .iconst 0, 1), (22, .istore_n 3, 1), (23, .iload_n 3, 1), (24, .iload_n 2, 1), (25, .if_icmp .ge 54, 3), (28, .aload_n 1, 1), (29, .aload_n 0, 1), (30, .iconst 1, 1), (31, .invokestatic 12, 3)]
set_option maxRecDepth 100000 in
theorem gv_75_0 : g_okc cL_law gi_75_0 = true := by decide +kernel
def gi_75_1 : List (Nat × Instr × Nat) := [(34, .iload_n 3, 1), (35, .ishr, 1), (36, .iconst 3, 1), (37, .invokestatic 18, 3), (40, .ifCond .ne 7, 3), (43, .iconst 1, 1), (44, .goto 4, 3), (47, .iconst 0, 1), (48, .bipush 30, 2), (50, .aload_n 0, 1), (51, .iconst 2, 1), (52, .invokestatic 12, 3), (55, .iload_n 3, 1), (56, .ishr, 1), (57, .sipush 200, 3), (60, .invokestatic 18, 3), (63, .iadd, 1)]
set_option maxRecDepth 100000 in
theorem gv_75_1 : g_okc cL_law gi_75_1 = true := by decide +kernel
def gi_75_2 : List (Nat × Instr × Nat) := [(64, .invokevirtual 22, 3), (67, .iload_n 3, 1), (68, .if_icmp .eq 5, 3), (71, .iconst 0, 1), (72, .ireturn, 1), (73, .iinc 3 1, 3), (76, .goto (-53), 3), (79, .iconst 0, 1), (80, .istore_n 3, 1), (81, .iload_n 3, 1), (82, .bipush 8, 2), (84, .if_icmp .ge 65, 3), (87, .aload_n 1, 1), (88, .iconst 1, 1), (89, .aload_n 0, 1), (90, .iconst 3, 1), (91, .iload_n 3, 1), (92, .iconst 4, 1), (93, .irem, 1), (94, .iadd, 1), (95, .invokestatic 12, 3)]
set_option maxRecDepth 100000 in
theorem gv_75_2 : g_okc cL_law gi_75_2 = true := by decide +kernel
def gi_75_3 : List (Nat × Instr × Nat) := [(98, .iload_n 3, 1), (99, .ishr, 1), (100, .bipush 60, 2), (102, .invokestatic 18, 3), (105, .iadd, 1), (106, .aload_n 0, 1), (107, .iconst 4, 1), (108, .iload_n 3, 1), (109, .iconst 3, 1), (110, .irem, 1), (111, .iadd, 1), (112, .invokestatic 12, 3), (115, .iload_n 3, 1), (116, .ishr, 1), (117, .bipush 61, 2), (119, .invokestatic 18, 3), (122, .aload_n 0, 1), (123, .bipush 6, 2), (125, .invokestatic 12, 3)]
set_option maxRecDepth 100000 in
theorem gv_75_3 : g_okc cL_law gi_75_3 = true := by decide +kernel
def gi_75_4 : List (Nat × Instr × Nat) := [(128, .iload_n 3, 1), (129, .ishr, 1), (130, .iconst 3, 1), (131, .invokestatic 18, 3), (134, .invokevirtual 26, 3), (137, .iload_n 3, 1), (138, .if_icmp .eq 5, 3), (141, .iconst 0, 1), (142, .ireturn, 1), (143, .iinc 3 1, 3), (146, .goto (-65), 3), (149, .iconst 0, 1), (150, .istore_n 3, 1), (151, .iload_n 3, 1), (152, .iconst 4, 1), (153, .if_icmp .ge 31, 3), (156, .aload_n 1, 1), (157, .iload_n 3, 1), (158, .iconst 2, 1), (159, .if_icmp .ge 9, 3)]
set_option maxRecDepth 100000 in
theorem gv_75_4 : g_okc cL_law gi_75_4 = true := by decide +kernel
def gi_75_5 : List (Nat × Instr × Nat) := [(162, .iload_n 3, 1), (163, .iconst 1, 1), (164, .iadd, 1), (165, .goto 4, 3), (168, .iconst (-1), 1), (169, .invokevirtual 30, 3), (172, .iload_n 3, 1), (173, .if_icmp .eq 5, 3), (176, .iconst 0, 1), (177, .ireturn, 1), (178, .iinc 3 1, 3), (181, .goto (-30), 3), (184, .iconst 0, 1), (185, .istore_n 3, 1), (186, .iconst 0, 1), (187, .istore 4, 2), (189, .iload 4, 2), (191, .bipush 80, 2)]
set_option maxRecDepth 100000 in
theorem gv_75_5 : g_okc cL_law gi_75_5 = true := by decide +kernel
def gi_75_6 : List (Nat × Instr × Nat) := [(193, .if_icmp .ge 893, 3), (196, .aload_n 0, 1), (197, .bipush 7, 2), (199, .iload 4, 2), (201, .bipush 23, 2), (203, .irem, 1), (204, .iadd, 1), (205, .invokestatic 12, 3), (208, .iload 4, 2), (210, .bipush 23, 2), (212, .idiv, 1), (213, .iconst 4, 1), (214, .imul, 1), (215, .ishr, 1), (216, .istore 5, 2), (218, .iload 5, 2), (220, .iconst 4, 1), (221, .ishr, 1), (222, .iload_n 2, 1), (223, .invokestatic 18, 3)]
set_option maxRecDepth 100000 in
theorem gv_75_6 : g_okc cL_law gi_75_6 = true := by decide +kernel
def gi_75_7 : List (Nat × Instr × Nat) := [(226, .istore 6, 2), (228, .iload 5, 2), (230, .iconst 3, 1), (231, .ishr, 1), (232, .bipush 8, 2), (234, .invokestatic 18, 3), (237, .istore 7, 2), (239, .iload 5, 2), (241, .iconst 5, 1), (242, .ishr, 1), (243, .iconst 4, 1), (244, .invokestatic 18, 3), (247, .istore 8, 2), (249, .aload_n 1, 1), (250, .iconst 5, 1), (251, .invokevirtual 34, 3), (254, .ifCond .lt 7, 3)]
set_option maxRecDepth 100000 in
theorem gv_75_7 : g_okc cL_law gi_75_7 = true := by decide +kernel
def gi_75_8 : List (Nat × Instr × Nat) := [(257, .iconst 1, 1), (258, .goto 4, 3), (261, .iconst 0, 1), (262, .istore 9, 2), (264, .iload 9, 2), (266, .ifCond .ne 17, 3), (269, .aload_n 1, 1), (270, .iload 6, 2), (272, .iconst 2, 1), (273, .invokevirtual 37, 3), (276, .ifCond .ne 7, 3), (279, .iconst 1, 1), (280, .goto 4, 3), (283, .iconst 0, 1), (284, .istore 10, 2), (286, .aload_n 1, 1), (287, .iload 7, 2)]
set_option maxRecDepth 100000 in
theorem gv_75_8 : g_okc cL_law gi_75_8 = true := by decide +kernel
def gi_75_9 : List (Nat × Instr × Nat) := [(289, .iconst 3, 1), (290, .invokevirtual 40, 3), (293, .istore 11, 2), (295, .iload 5, 2), (297, .bipush 18, 2), (299, .invokestatic 18, 3), (302, .tableswitch 720 0 14 #[74, 74, 74, 143, 187, 255, 255, 255, 368, 386, 452, 452, 520, 595, 643], 74)]
set_option maxRecDepth 100000 in
theorem gv_75_9 : g_okc cL_law gi_75_9 = true := by decide +kernel
def gi_75_10 : List (Nat × Instr × Nat) := []
set_option maxRecDepth 100000 in
theorem gv_75_10 : g_okc cL_law gi_75_10 = true := by decide +kernel
def gi_75_11 : List (Nat × Instr × Nat) := [(376, .aload_n 1, 1), (377, .iload 6, 2), (379, .iconst 4, 1), (380, .invokevirtual 37, 3), (383, .aload_n 1, 1)]
set_option maxRecDepth 100000 in
theorem gv_75_11 : g_okc cL_law gi_75_11 = true := by decide +kernel
def gi_75_12 : List (Nat × Instr × Nat) := [(384, .iload 7, 2), (386, .iconst 0, 1), (387, .invokevirtual 40, 3), (390, .iadd, 1), (391, .istore 12, 2), (393, .iload 10, 2), (395, .ifCond .eq 675, 3), (398, .iload 11, 2), (400, .ifCond .ge 670, 3), (403, .iload 12, 2), (405, .aload_n 1, 1), (406, .iload 6, 2), (408, .iconst 1, 1), (409, .invokevirtual 37, 3), (412, .if_icmp .le 6, 3), (415, .goto 655, 3)]
set_option maxRecDepth 100000 in
theorem gv_75_12 : g_okc cL_law gi_75_12 = true := by decide +kernel
def gi_75_13 : List (Nat × Instr × Nat) := [(418, .aload_n 1, 1), (419, .iload 7, 2), (421, .iload 6, 2), (423, .invokevirtual 43, 3), (426, .iload 12, 2), (428, .if_icmp .ne 15, 3), (431, .aload_n 1, 1), (432, .iload 7, 2), (434, .iconst 3, 1), (435, .invokevirtual 40, 3), (438, .iload 6, 2), (440, .if_icmp .eq 630, 3), (443, .iconst 0, 1), (444, .ireturn, 1), (445, .iload 9, 2), (447, .ifCond .ne 623, 3)]
set_option maxRecDepth 100000 in
theorem gv_75_13 : g_okc cL_law gi_75_13 = true := by decide +kernel
def gi_75_14 : List (Nat × Instr × Nat) := [(450, .iload 11, 2), (452, .ifCond .lt 618, 3), (455, .aload_n 1, 1), (456, .iload 11, 2), (458, .iconst 2, 1), (459, .invokevirtual 37, 3), (462, .ifCond .ne 608, 3), (465, .aload_n 1, 1), (466, .iload 7, 2), (468, .invokevirtual 46, 3), (471, .iload 11, 2), (473, .if_icmp .ne 14, 3), (476, .aload_n 1, 1), (477, .iload 7, 2), (479, .iconst 3, 1)]
set_option maxRecDepth 100000 in
theorem gv_75_14 : g_okc cL_law gi_75_14 = true := by decide +kernel
def gi_75_15 : List (Nat × Instr × Nat) := [(480, .invokevirtual 40, 3), (483, .iconst (-1), 1), (484, .if_icmp .eq 586, 3), (487, .iconst 0, 1), (488, .ireturn, 1), (489, .iload 10, 2), (491, .ifCond .eq 579, 3), (494, .aload_n 1, 1), (495, .iload 6, 2), (497, .iconst 0, 1), (498, .invokevirtual 37, 3), (501, .iconst 1, 1), (502, .if_icmp .ne 6, 3), (505, .goto 565, 3), (508, .iconst 0, 1), (509, .aload_n 1, 1), (510, .iload 6, 2)]
set_option maxRecDepth 100000 in
theorem gv_75_15 : g_okc cL_law gi_75_15 = true := by decide +kernel
def gi_75_16 : List (Nat × Instr × Nat) := [(512, .iconst 4, 1), (513, .invokevirtual 37, 3), (516, .iload 5, 2), (518, .iconst 2, 1), (519, .ishr, 1), (520, .bipush 80, 2), (522, .invokestatic 18, 3), (525, .iadd, 1), (526, .bipush 40, 2), (528, .isub, 1), (529, .invokestatic 49, 3), (532, .istore 12, 2), (534, .aload_n 1, 1), (535, .iload 6, 2), (537, .iload 12, 2), (539, .invokevirtual 54, 3), (542, .aload_n 1, 1), (543, .iload 6, 2)]
set_option maxRecDepth 100000 in
theorem gv_75_16 : g_okc cL_law gi_75_16 = true := by decide +kernel
def gi_75_17 : List (Nat × Instr × Nat) := [(545, .iconst 4, 1), (546, .invokevirtual 37, 3), (549, .iload 12, 2), (551, .isub, 1), (552, .if_icmp .eq 518, 3), (555, .iconst 0, 1), (556, .ireturn, 1), (557, .aload_n 1, 1), (558, .iload 8, 2), (560, .invokestatic 57, 3), (563, .istore 12, 2), (565, .aload_n 1, 1), (566, .iload 8, 2), (568, .iload 6, 2), (570, .iload 5, 2), (572, .iconst 2, 1), (573, .ishr, 1), (574, .bipush 121, 2)]
set_option maxRecDepth 100000 in
theorem gv_75_17 : g_okc cL_law gi_75_17 = true := by decide +kernel
def gi_75_18 : List (Nat × Instr × Nat) := [(576, .invokestatic 18, 3), (579, .iconst 1, 1), (580, .iload 5, 2), (582, .iconst 3, 1), (583, .ishr, 1), (584, .bipush 6, 2), (586, .invokestatic 18, 3), (589, .iadd, 1), (590, .iload 5, 2), (592, .bipush 6, 2), (594, .ishr, 1), (595, .bipush 8, 2), (597, .invokestatic 18, 3), (600, .invokestatic 61, 3), (603, .istore 13, 2), (605, .iload 13, 2), (607, .ifCond .lt 50, 3)]
set_option maxRecDepth 100000 in
theorem gv_75_18 : g_okc cL_law gi_75_18 = true := by decide +kernel
def gi_75_19 : List (Nat × Instr × Nat) := [(610, .iload 13, 2), (612, .iload 12, 2), (614, .if_icmp .ne 54, 3), (617, .aload_n 1, 1), (618, .iload 8, 2), (620, .iload 13, 2), (622, .iconst 0, 1), (623, .invokevirtual 65, 3), (626, .iload 6, 2), (628, .if_icmp .ne 40, 3), (631, .aload_n 1, 1), (632, .iload 8, 2), (634, .iload 13, 2), (636, .iconst 4, 1), (637, .invokevirtual 65, 3)]
set_option maxRecDepth 100000 in
theorem gv_75_19 : g_okc cL_law gi_75_19 = true := by decide +kernel
def gi_75_20 : List (Nat × Instr × Nat) := [(640, .iconst (-1), 1), (641, .if_icmp .ne 27, 3), (644, .aload_n 1, 1), (645, .iconst 5, 1), (646, .invokevirtual 34, 3), (649, .iload 8, 2), (651, .if_icmp .ne 419, 3), (654, .goto 14, 3), (657, .aload_n 1, 1), (658, .iload 8, 2), (660, .invokestatic 57, 3), (663, .iload 12, 2), (665, .if_icmp .eq 405, 3), (668, .iconst 0, 1), (669, .ireturn, 1), (670, .aload_n 1, 1), (671, .iload 5, 2)]
set_option maxRecDepth 100000 in
theorem gv_75_20 : g_okc cL_law gi_75_20 = true := by decide +kernel
def gi_75_21 : List (Nat × Instr × Nat) := [(673, .iconst 4, 1), (674, .ishr, 1), (675, .bipush 6, 2), (677, .invokestatic 18, 3), (680, .invokevirtual 68, 3), (683, .ifCond .ge 387, 3), (686, .iconst 0, 1), (687, .ireturn, 1), (688, .aload_n 1, 1), (689, .iload 6, 2), (691, .bipush 8, 2), (693, .invokevirtual 37, 3), (696, .iconst 1, 1), (697, .if_icmp .ne 7, 3), (700, .iconst 1, 1), (701, .goto 4, 3)]
set_option maxRecDepth 100000 in
theorem gv_75_21 : g_okc cL_law gi_75_21 = true := by decide +kernel
def gi_75_22 : List (Nat × Instr × Nat) := [(704, .iconst 0, 1), (705, .istore 12, 2), (707, .aload_n 1, 1), (708, .iload 6, 2), (710, .iload 5, 2), (712, .bipush 6, 2), (714, .ishr, 1), (715, .iconst 2, 1), (716, .invokestatic 18, 3), (719, .ifCond .ne 7, 3), (722, .iconst 1, 1), (723, .goto 4, 3), (726, .iconst 0, 1), (727, .iload 5, 2), (729, .bipush 7, 2), (731, .ishr, 1), (732, .iconst 3, 1), (733, .invokestatic 18, 3)]
set_option maxRecDepth 100000 in
theorem gv_75_22 : g_okc cL_law gi_75_22 = true := by decide +kernel
def gi_75_23 : List (Nat × Instr × Nat) := [(736, .ifCond .le 7, 3), (739, .iconst 1, 1), (740, .goto 4, 3), (743, .iconst 0, 1), (744, .invokevirtual 71, 3), (747, .iload 12, 2), (749, .if_icmp .eq 321, 3), (752, .iconst 0, 1), (753, .ireturn, 1), (754, .iload 9, 2), (756, .ifCond .eq 6, 3), (759, .goto 311, 3), (762, .aload_n 1, 1), (763, .iload 8, 2), (765, .invokevirtual 74, 3)]
set_option maxRecDepth 100000 in
theorem gv_75_23 : g_okc cL_law gi_75_23 = true := by decide +kernel
def gi_75_24 : List (Nat × Instr × Nat) := [(768, .aload_n 1, 1), (769, .iload 8, 2), (771, .invokestatic 57, 3), (774, .if_icmp .ne 46, 3), (777, .aload_n 1, 1), (778, .iconst 5, 1), (779, .invokevirtual 34, 3), (782, .iload 8, 2), (784, .if_icmp .ne 36, 3), (787, .aload_n 1, 1), (788, .bipush 7, 2), (790, .invokevirtual 34, 3), (793, .ifCond .ne 27, 3), (796, .aload_n 1, 1), (797, .bipush 8, 2), (799, .invokevirtual 34, 3)]
set_option maxRecDepth 100000 in
theorem gv_75_24 : g_okc cL_law gi_75_24 = true := by decide +kernel
def gi_75_25 : List (Nat × Instr × Nat) := [(802, .aload_n 1, 1), (803, .iload 8, 2), (805, .invokestatic 57, 3), (808, .if_icmp .ne 12, 3), (811, .aload_n 1, 1), (812, .bipush 6, 2), (814, .invokevirtual 34, 3), (817, .ifCond .eq 253, 3), (820, .iconst 0, 1), (821, .ireturn, 1), (822, .iload 9, 2), (824, .ifCond .ne 6, 3), (827, .goto 243, 3), (830, .aload_n 1, 1), (831, .bipush 6, 2)]
set_option maxRecDepth 100000 in
theorem gv_75_25 : g_okc cL_law gi_75_25 = true := by decide +kernel
def gi_75_26 : List (Nat × Instr × Nat) := [(833, .invokevirtual 34, 3), (836, .iconst 1, 1), (837, .if_icmp .ne 7, 3), (840, .iconst 1, 1), (841, .goto 4, 3), (844, .iconst 0, 1), (845, .istore 12, 2), (847, .iload 5, 2), (849, .iconst 5, 1), (850, .ishr, 1), (851, .iconst 2, 1), (852, .invokestatic 18, 3), (855, .ifCond .ne 7, 3), (858, .iconst 1, 1), (859, .goto 4, 3), (862, .iconst 0, 1), (863, .istore 13, 2)]
set_option maxRecDepth 100000 in
theorem gv_75_26 : g_okc cL_law gi_75_26 = true := by decide +kernel
def gi_75_27 : List (Nat × Instr × Nat) := [(865, .aload_n 1, 1), (866, .iload 13, 2), (868, .invokevirtual 77, 3), (871, .iload 12, 2), (873, .if_icmp .ne 22, 3), (876, .aload_n 1, 1), (877, .bipush 6, 2), (879, .invokevirtual 34, 3), (882, .iload 13, 2), (884, .ifCond .eq 7, 3), (887, .iconst 1, 1), (888, .goto 4, 3), (891, .iconst 0, 1), (892, .if_icmp .eq 178, 3), (895, .iconst 0, 1)]
set_option maxRecDepth 100000 in
theorem gv_75_27 : g_okc cL_law gi_75_27 = true := by decide +kernel
def gi_75_28 : List (Nat × Instr × Nat) := [(896, .ireturn, 1), (897, .iload 9, 2), (899, .ifCond .eq 171, 3), (902, .iload 5, 2), (904, .bipush 6, 2), (906, .ishr, 1), (907, .iconst 2, 1), (908, .invokestatic 18, 3), (911, .ifCond .ne 6, 3), (914, .goto 156, 3), (917, .aload_n 1, 1), (918, .bipush 8, 2), (920, .invokevirtual 34, 3), (923, .istore 12, 2), (925, .aload_n 1, 1), (926, .invokevirtual 81, 3)]
set_option maxRecDepth 100000 in
theorem gv_75_28 : g_okc cL_law gi_75_28 = true := by decide +kernel
def gi_75_29 : List (Nat × Instr × Nat) := [(929, .iload 12, 2), (931, .if_icmp .ne 12, 3), (934, .aload_n 1, 1), (935, .iconst 5, 1), (936, .invokevirtual 34, 3), (939, .iconst (-1), 1), (940, .if_icmp .eq 130, 3), (943, .iconst 0, 1), (944, .ireturn, 1), (945, .aload_n 1, 1), (946, .iload 6, 2), (948, .bipush 10, 2), (950, .invokevirtual 37, 3), (953, .iconst 1, 1), (954, .if_icmp .ne 7, 3), (957, .iconst 1, 1), (958, .goto 4, 3)]
set_option maxRecDepth 100000 in
theorem gv_75_29 : g_okc cL_law gi_75_29 = true := by decide +kernel
def gi_75_30 : List (Nat × Instr × Nat) := [(961, .iconst 0, 1), (962, .istore 12, 2), (964, .aload_n 1, 1), (965, .iload 6, 2), (967, .iload 5, 2), (969, .bipush 6, 2), (971, .ishr, 1), (972, .iconst 2, 1), (973, .invokestatic 18, 3), (976, .ifCond .ne 7, 3), (979, .iconst 1, 1), (980, .goto 4, 3), (983, .iconst 0, 1), (984, .invokevirtual 85, 3), (987, .iload 12, 2), (989, .if_icmp .ne 31, 3)]
set_option maxRecDepth 100000 in
theorem gv_75_30 : g_okc cL_law gi_75_30 = true := by decide +kernel
def gi_75_31 : List (Nat × Instr × Nat) := [(992, .aload_n 1, 1), (993, .iload 6, 2), (995, .bipush 10, 2), (997, .invokevirtual 37, 3), (1000, .iload 5, 2), (1002, .bipush 6, 2), (1004, .ishr, 1), (1005, .iconst 2, 1), (1006, .invokestatic 18, 3), (1009, .ifCond .ne 7, 3), (1012, .iconst 1, 1), (1013, .goto 4, 3), (1016, .iconst 0, 1), (1017, .if_icmp .eq 53, 3), (1020, .iconst 0, 1), (1021, .ireturn, 1), (1022, .iconst 1, 1), (1023, .iload 5, 2)]
set_option maxRecDepth 100000 in
theorem gv_75_31 : g_okc cL_law gi_75_31 = true := by decide +kernel
def gi_75_32 : List (Nat × Instr × Nat) := [(1025, .iconst 3, 1), (1026, .ishr, 1), (1027, .bipush 9, 2), (1029, .invokestatic 18, 3), (1032, .iadd, 1), (1033, .istore 12, 2), (1035, .iconst 0, 1), (1036, .istore 13, 2), (1038, .iload 13, 2), (1040, .iload 12, 2), (1042, .if_icmp .ge 28, 3), (1045, .aload_n 1, 1), (1046, .iload_n 2, 1), (1047, .invokestatic 89, 3), (1050, .istore 14, 2), (1052, .iload 14, 2), (1054, .ifCond .ge 5, 3)]
set_option maxRecDepth 100000 in
theorem gv_75_32 : g_okc cL_law gi_75_32 = true := by decide +kernel
def gi_75_33 : List (Nat × Instr × Nat) := [(1057, .iconst 0, 1), (1058, .ireturn, 1), (1059, .iload_n 3, 1), (1060, .iload 14, 2), (1062, .iadd, 1), (1063, .istore_n 3, 1), (1064, .iinc 13 1, 3), (1067, .goto (-29), 3), (1070, .aload_n 1, 1), (1071, .iload_n 2, 1), (1072, .invokestatic 92, 3), (1075, .ifCond .ne 5, 3), (1078, .iconst 0, 1), (1079, .ireturn, 1), (1080, .iinc 4 1, 3), (1083, .goto (-894), 3), (1086, .aload_n 1, 1), (1087, .invokevirtual 96, 3)]
set_option maxRecDepth 100000 in
theorem gv_75_33 : g_okc cL_law gi_75_33 = true := by decide +kernel
def gi_75_34 : List (Nat × Instr × Nat) := [(1090, .lstore 4, 2), (1092, .aload_n 1, 1), (1093, .iload_n 2, 1), (1094, .invokestatic 92, 3), (1097, .ifCond .eq 21, 3), (1100, .iload_n 3, 1), (1101, .ifCond .lt 17, 3), (1104, .aload_n 1, 1), (1105, .invokevirtual 96, 3), (1108, .lload 4, 2), (1110, .lcmp, 1), (1111, .ifCond .ne 7, 3), (1114, .iconst 1, 1), (1115, .goto 4, 3), (1118, .iconst 0, 1), (1119, .ireturn, 1)]
set_option maxRecDepth 100000 in
theorem gv_75_34 : g_okc cL_law gi_75_34 = true := by decide +kernel
def gi_75 : List (List (Nat × Instr × Nat)) := [gi_75_0, gi_75_1, gi_75_2, gi_75_3, gi_75_4, gi_75_5, gi_75_6, gi_75_7, gi_75_8, gi_75_9, gi_75_10, gi_75_11, gi_75_12, gi_75_13, gi_75_14, gi_75_15, gi_75_16, gi_75_17, gi_75_18, gi_75_19, gi_75_20, gi_75_21, gi_75_22, gi_75_23, gi_75_24, gi_75_25, gi_75_26, gi_75_27, gi_75_28, gi_75_29, gi_75_30, gi_75_31, gi_75_32, gi_75_33, gi_75_34]
theorem gv_75 : ∀ ch ∈ gi_75, g_okc cL_law ch = true := List.forall_mem_cons.mpr ⟨gv_75_0, List.forall_mem_cons.mpr ⟨gv_75_1, List.forall_mem_cons.mpr ⟨gv_75_2, List.forall_mem_cons.mpr ⟨gv_75_3, List.forall_mem_cons.mpr ⟨gv_75_4, List.forall_mem_cons.mpr ⟨gv_75_5, List.forall_mem_cons.mpr ⟨gv_75_6, List.forall_mem_cons.mpr ⟨gv_75_7, List.forall_mem_cons.mpr ⟨gv_75_8, List.forall_mem_cons.mpr ⟨gv_75_9, List.forall_mem_cons.mpr ⟨gv_75_10, List.forall_mem_cons.mpr ⟨gv_75_11, List.forall_mem_cons.mpr ⟨gv_75_12, List.forall_mem_cons.mpr ⟨gv_75_13, List.forall_mem_cons.mpr ⟨gv_75_14, List.forall_mem_cons.mpr ⟨gv_75_15, List.forall_mem_cons.mpr ⟨gv_75_16, List.forall_mem_cons.mpr ⟨gv_75_17, List.forall_mem_cons.mpr ⟨gv_75_18, List.forall_mem_cons.mpr ⟨gv_75_19, List.forall_mem_cons.mpr ⟨gv_75_20, List.forall_mem_cons.mpr ⟨gv_75_21, List.forall_mem_cons.mpr ⟨gv_75_22, List.forall_mem_cons.mpr ⟨gv_75_23, List.forall_mem_cons.mpr ⟨gv_75_24, List.forall_mem_cons.mpr ⟨gv_75_25, List.forall_mem_cons.mpr ⟨gv_75_26, List.forall_mem_cons.mpr ⟨gv_75_27, List.forall_mem_cons.mpr ⟨gv_75_28, List.forall_mem_cons.mpr ⟨gv_75_29, List.forall_mem_cons.mpr ⟨gv_75_30, List.forall_mem_cons.mpr ⟨gv_75_31, List.forall_mem_cons.mpr ⟨gv_75_32, List.forall_mem_cons.mpr ⟨gv_75_33, List.forall_mem_cons.mpr ⟨gv_75_34, fun _ h => absurd h List.not_mem_nil⟩⟩⟩⟩⟩⟩⟩⟩⟩⟩⟩⟩⟩⟩⟩⟩⟩⟩⟩⟩⟩⟩⟩⟩⟩⟩⟩⟩⟩⟩⟩⟩⟩⟩⟩
def gm_CI : List (ByteArray × List (List (Nat × Instr × Nat))) := [(cX0_init, gi_0), (cX2_init, gi_1), (cX1_init, gi_2), (cX4_init, gi_3), (cX3_init, gi_4), (cX5_init, gi_5), (cL_cell, gi_6), (cL_below, gi_7), (cX5_bar, gi_8), (cX5_piece, gi_9), (cX5_cue, gi_10), (cX4_cueAt, gi_11), (cX1_openMoves, gi_12), (cX4_openMoves, gi_13), (cX4_brokenBrakes, gi_14), (cX5_many, gi_15), (cX4_barAt, gi_16), (cX0_difference, gi_17), (cX5_ofBar, gi_18), (cX5_pieceAt, gi_19), (cX5_ofPiece, gi_20), (cX5_refuseUnlessAtRest, gi_21), (cX5_weigh, gi_22), (cX5_hang, gi_23), (cX5_take, gi_24), (cX5_counter, gi_25), (cX1_moveAt, gi_26), (cX5_ofMove, gi_27), (cL_moves, gi_28), (cX1_hasMoveOf, gi_29), (cX5_move, gi_30), (cL_move, gi_31), (cX5_crew, gi_32), (cX5_below, gi_33), (cX1_openAll, gi_34), (cX4_begin, gi_35), (cX5_go, gi_36), (cX5_refuseUnlessRunning, gi_37), (cX5_stop, gi_38), (cX4_rest, gi_39), (cX5_end, gi_40), (cX5_brake, gi_41), (cX0_touchesAt, gi_42), (cX5_touch, gi_43), (cX0_differenceWithoutSign, gi_44), (cX4_mayGo, gi_45), (cX4_touchesAnew, gi_46), (cX0_goTo, gi_47), (cX4_goNearer, gi_48), (cX4_playMoves, gi_49), (cX4_judgeRun, gi_50), (cX4_runAway, gi_51), (cX4_finish, gi_52), (cX4_playSecond, gi_53), (cX5_pass, gi_54), (cJ6_bitCount_0f7a4, gi_55), (cL_second, gi_56), (cX5_meanHeight, gi_57), (cJ9_abs_294c1, gi_58), (cX0_copyFrom, gi_59), (cX2_copyFrom, gi_60), (cX1_copyFrom, gi_61), (cX4_copyFrom, gi_62), (cX4_mendBrakes, gi_63), (cX5_rehearse, gi_64), (cX5_secondsFor, gi_65), (cX5_stopsAt, gi_66), (cX5_wouldHurt, gi_67), (cL_isSo, gi_68), (cX5_digestOfMoves, gi_69), (cX5_isIn, gi_70), (cX5_isBehindFormer, gi_71), (cX5_smallestPlace, gi_72), (cX5_fits, gi_73), (cX5_digest, gi_74), (cL_law, gi_75)]
set_option maxRecDepth 100000 in
theorem gv_all : ∀ q ∈ gm_CI, ∀ ch ∈ q.2, g_okc q.1 ch = true := List.forall_mem_cons.mpr ⟨gv_0, List.forall_mem_cons.mpr ⟨gv_1, List.forall_mem_cons.mpr ⟨gv_2, List.forall_mem_cons.mpr ⟨gv_3, List.forall_mem_cons.mpr ⟨gv_4, List.forall_mem_cons.mpr ⟨gv_5, List.forall_mem_cons.mpr ⟨gv_6, List.forall_mem_cons.mpr ⟨gv_7, List.forall_mem_cons.mpr ⟨gv_8, List.forall_mem_cons.mpr ⟨gv_9, List.forall_mem_cons.mpr ⟨gv_10, List.forall_mem_cons.mpr ⟨gv_11, List.forall_mem_cons.mpr ⟨gv_12, List.forall_mem_cons.mpr ⟨gv_13, List.forall_mem_cons.mpr ⟨gv_14, List.forall_mem_cons.mpr ⟨gv_15, List.forall_mem_cons.mpr ⟨gv_16, List.forall_mem_cons.mpr ⟨gv_17, List.forall_mem_cons.mpr ⟨gv_18, List.forall_mem_cons.mpr ⟨gv_19, List.forall_mem_cons.mpr ⟨gv_20, List.forall_mem_cons.mpr ⟨gv_21, List.forall_mem_cons.mpr ⟨gv_22, List.forall_mem_cons.mpr ⟨gv_23, List.forall_mem_cons.mpr ⟨gv_24, List.forall_mem_cons.mpr ⟨gv_25, List.forall_mem_cons.mpr ⟨gv_26, List.forall_mem_cons.mpr ⟨gv_27, List.forall_mem_cons.mpr ⟨gv_28, List.forall_mem_cons.mpr ⟨gv_29, List.forall_mem_cons.mpr ⟨gv_30, List.forall_mem_cons.mpr ⟨gv_31, List.forall_mem_cons.mpr ⟨gv_32, List.forall_mem_cons.mpr ⟨gv_33, List.forall_mem_cons.mpr ⟨gv_34, List.forall_mem_cons.mpr ⟨gv_35, List.forall_mem_cons.mpr ⟨gv_36, List.forall_mem_cons.mpr ⟨gv_37, List.forall_mem_cons.mpr ⟨gv_38, List.forall_mem_cons.mpr ⟨gv_39, List.forall_mem_cons.mpr ⟨gv_40, List.forall_mem_cons.mpr ⟨gv_41, List.forall_mem_cons.mpr ⟨gv_42, List.forall_mem_cons.mpr ⟨gv_43, List.forall_mem_cons.mpr ⟨gv_44, List.forall_mem_cons.mpr ⟨gv_45, List.forall_mem_cons.mpr ⟨gv_46, List.forall_mem_cons.mpr ⟨gv_47, List.forall_mem_cons.mpr ⟨gv_48, List.forall_mem_cons.mpr ⟨gv_49, List.forall_mem_cons.mpr ⟨gv_50, List.forall_mem_cons.mpr ⟨gv_51, List.forall_mem_cons.mpr ⟨gv_52, List.forall_mem_cons.mpr ⟨gv_53, List.forall_mem_cons.mpr ⟨gv_54, List.forall_mem_cons.mpr ⟨gv_55, List.forall_mem_cons.mpr ⟨gv_56, List.forall_mem_cons.mpr ⟨gv_57, List.forall_mem_cons.mpr ⟨gv_58, List.forall_mem_cons.mpr ⟨gv_59, List.forall_mem_cons.mpr ⟨gv_60, List.forall_mem_cons.mpr ⟨gv_61, List.forall_mem_cons.mpr ⟨gv_62, List.forall_mem_cons.mpr ⟨gv_63, List.forall_mem_cons.mpr ⟨gv_64, List.forall_mem_cons.mpr ⟨gv_65, List.forall_mem_cons.mpr ⟨gv_66, List.forall_mem_cons.mpr ⟨gv_67, List.forall_mem_cons.mpr ⟨gv_68, List.forall_mem_cons.mpr ⟨gv_69, List.forall_mem_cons.mpr ⟨gv_70, List.forall_mem_cons.mpr ⟨gv_71, List.forall_mem_cons.mpr ⟨gv_72, List.forall_mem_cons.mpr ⟨gv_73, List.forall_mem_cons.mpr ⟨gv_74, List.forall_mem_cons.mpr ⟨gv_75, fun _ h => absurd h List.not_mem_nil⟩⟩⟩⟩⟩⟩⟩⟩⟩⟩⟩⟩⟩⟩⟩⟩⟩⟩⟩⟩⟩⟩⟩⟩⟩⟩⟩⟩⟩⟩⟩⟩⟩⟩⟩⟩⟩⟩⟩⟩⟩⟩⟩⟩⟩⟩⟩⟩⟩⟩⟩⟩⟩⟩⟩⟩⟩⟩⟩⟩⟩⟩⟩⟩⟩⟩⟩⟩⟩⟩⟩⟩⟩⟩⟩⟩
end
section
/-! THE TABLES, by program (wip/whole/gen_tables.py) out of the claim -/
def gm_N : List (MethodName) := [⟨"FlyTower$Bar", "<init>", "(I)V"⟩, ⟨"FlyTower$Move", "<init>", "()V"⟩, ⟨"FlyTower$Cue", "<init>", "()V"⟩, ⟨"FlyTower$Rig", "<init>", "()V"⟩, ⟨"FlyTower$Piece", "<init>", "()V"⟩, ⟨"FlyTower", "<init>", "()V"⟩, ⟨"FlyTowerLaw", "cell", "([II)I"⟩, ⟨"FlyTowerLaw", "below", "(II)I"⟩, ⟨"FlyTower", "bar", "(ZI)I"⟩, ⟨"FlyTower", "piece", "(III)I"⟩, ⟨"FlyTower", "cue", "(I)I"⟩, ⟨"FlyTower$Rig", "cueAt", "(I)LFlyTower$Cue;"⟩, ⟨"FlyTower$Cue", "openMoves", "()I"⟩, ⟨"FlyTower$Rig", "openMoves", "()I"⟩, ⟨"FlyTower$Rig", "brokenBrakes", "()I"⟩, ⟨"FlyTower", "many", "(I)I"⟩, ⟨"FlyTower$Rig", "barAt", "(I)LFlyTower$Bar;"⟩, ⟨"FlyTower$Bar", "difference", "()I"⟩, ⟨"FlyTower", "ofBar", "(II)I"⟩, ⟨"FlyTower", "pieceAt", "(I)LFlyTower$Piece;"⟩, ⟨"FlyTower", "ofPiece", "(II)I"⟩, ⟨"FlyTower", "refuseUnlessAtRest", "(LFlyTower$Bar;)V"⟩, ⟨"FlyTower", "weigh", "(LFlyTower$Bar;)V"⟩, ⟨"FlyTower", "hang", "(II)I"⟩, ⟨"FlyTower", "take", "(I)I"⟩, ⟨"FlyTower", "counter", "(II)I"⟩, ⟨"FlyTower$Cue", "moveAt", "(I)LFlyTower$Move;"⟩, ⟨"FlyTower", "ofMove", "(III)I"⟩, ⟨"FlyTowerLaw", "moves", "(LFlyTower;I)I"⟩, ⟨"FlyTower$Cue", "hasMoveOf", "(I)Z"⟩, ⟨"FlyTower", "move", "(IIIII)I"⟩, ⟨"FlyTowerLaw", "move", "(LFlyTower;IIIII)I"⟩, ⟨"FlyTower", "crew", "(I)I"⟩, ⟨"FlyTower", "below", "(IZZ)Z"⟩, ⟨"FlyTower$Cue", "openAll", "()V"⟩, ⟨"FlyTower$Rig", "begin", "(I)V"⟩, ⟨"FlyTower", "go", "(I)I"⟩, ⟨"FlyTower", "refuseUnlessRunning", "()V"⟩, ⟨"FlyTower", "stop", "(Z)Z"⟩, ⟨"FlyTower$Rig", "rest", "()V"⟩, ⟨"FlyTower", "end", "()I"⟩, ⟨"FlyTower", "brake", "(IZ)Z"⟩, ⟨"FlyTower$Bar", "touchesAt", "(ILFlyTower$Bar;)Z"⟩, ⟨"FlyTower", "touch", "(II)Z"⟩, ⟨"FlyTower$Bar", "differenceWithoutSign", "()I"⟩, ⟨"FlyTower$Rig", "mayGo", "(LFlyTower$Move;LFlyTower$Bar;)Z"⟩, ⟨"FlyTower$Rig", "touchesAnew", "(LFlyTower$Bar;I)Z"⟩, ⟨"FlyTower$Bar", "goTo", "(I)V"⟩, ⟨"FlyTower$Rig", "goNearer", "(LFlyTower$Move;LFlyTower$Bar;)V"⟩, ⟨"FlyTower$Rig", "playMoves", "(LFlyTower$Cue;)V"⟩, ⟨"FlyTower$Rig", "judgeRun", "(LFlyTower$Bar;I)V"⟩, ⟨"FlyTower$Rig", "runAway", "(LFlyTower$Bar;)V"⟩, ⟨"FlyTower$Rig", "finish", "(I)V"⟩, ⟨"FlyTower$Rig", "playSecond", "()V"⟩, ⟨"FlyTower", "pass", "(I)I"⟩, ⟨"java/lang/Integer", "bitCount", "(I)I"⟩, ⟨"FlyTowerLaw", "second", "(LFlyTower;I)I"⟩, ⟨"FlyTower", "meanHeight", "()D"⟩, ⟨"java/lang/Math", "abs", "(D)D"⟩, ⟨"FlyTower$Bar", "copyFrom", "(LFlyTower$Bar;)V"⟩, ⟨"FlyTower$Move", "copyFrom", "(LFlyTower$Move;)V"⟩, ⟨"FlyTower$Cue", "copyFrom", "(LFlyTower$Cue;)V"⟩, ⟨"FlyTower$Rig", "copyFrom", "(LFlyTower$Rig;)V"⟩, ⟨"FlyTower$Rig", "mendBrakes", "()V"⟩, ⟨"FlyTower", "rehearse", "(I)I"⟩, ⟨"FlyTower", "secondsFor", "(I)I"⟩, ⟨"FlyTower", "stopsAt", "(I)I"⟩, ⟨"FlyTower", "wouldHurt", "(I)I"⟩, ⟨"FlyTowerLaw", "isSo", "(LFlyTower;I)Z"⟩, ⟨"FlyTower", "digestOfMoves", "(JI)J"⟩, ⟨"FlyTower", "isIn", "(II)Z"⟩, ⟨"FlyTower", "isBehindFormer", "(III)Z"⟩, ⟨"FlyTower", "smallestPlace", "(II)I"⟩, ⟨"FlyTower", "fits", "(I)I"⟩, ⟨"FlyTower", "digest", "()J"⟩, ⟨"FlyTowerLaw", "law", "([I)Z"⟩]
def gm_L : List (Nat) := [2, 1, 2, 2, 1, 2, 2, 2, 4, 5, 2, 2, 3, 1, 3, 2, 2, 1, 4, 2, 4, 2, 4, 5, 4, 4, 2, 5, 4, 3, 9, 7, 3, 6, 2, 2, 3, 1, 3, 1, 2, 5, 4, 5, 2, 4, 4, 2, 5, 5, 4, 7, 2, 2, 4, 1, 17, 3, 2, 2, 2, 3, 3, 2, 3, 2, 2, 3, 11, 9, 2, 6, 4, 5, 5, 15]
def gm_R : List (Option FieldType) := [none, none, none, none, none, none, some (.int), some (.int), some (.int), some (.int), some (.int), some (.object "FlyTower$Cue"), some (.int), some (.int), some (.int), some (.int), some (.object "FlyTower$Bar"), some (.int), some (.int), some (.object "FlyTower$Piece"), some (.int), none, none, some (.int), some (.int), some (.int), some (.object "FlyTower$Move"), some (.int), some (.int), some (.boolean), some (.int), some (.int), some (.int), some (.boolean), none, none, some (.int), none, some (.boolean), none, some (.int), some (.boolean), some (.boolean), some (.boolean), some (.int), some (.boolean), some (.boolean), none, none, none, none, none, none, none, some (.int), some (.int), some (.int), some (.double), some (.double), none, none, none, none, none, some (.int), some (.int), some (.int), some (.int), some (.boolean), some (.long), some (.boolean), some (.boolean), some (.int), some (.int), some (.long), some (.boolean)]
def gm_H : List (List (Nat × Nat × Nat × Nat)) := [[], [], [], [], [], [], [], [], [], [], [], [], [], [], [], [], [], [], [], [], [], [], [], [], [], [], [], [], [(8, 19, 23, 100)], [], [], [(0, 11, 12, 105)], [], [], [], [], [], [], [], [], [], [], [], [], [], [], [], [], [], [], [], [], [], [], [], [], [], [], [], [], [], [], [], [], [], [], [], [], [], [], [], [], [], [], [], []]
def gm_F : List (Nat) := [1, 1, 2, 3, 1, 4, 0, 0, 6, 6, 6, 6, 0, 7, 0, 8, 6, 0, 7, 6, 7, 6, 1, 7, 7, 7, 6, 7, 8, 0, 7, 8, 6, 7, 0, 7, 8, 6, 7, 0, 8, 7, 0, 7, 1, 2, 1, 0, 2, 7, 0, 2, 8, 9, 10, 0, 11, 0, 1, 0, 0, 1, 2, 0, 10, 11, 11, 10, 12, 8, 0, 1, 2, 6, 11, 13]
def gm_W : List (Nat) := [21, 21, 41, 62, 21, 83, 0, 0, 98, 98, 98, 98, 0, 119, 0, 139, 98, 0, 119, 98, 119, 98, 21, 119, 119, 119, 98, 119, 143, 0, 119, 147, 98, 119, 0, 119, 140, 98, 118, 0, 139, 119, 0, 119, 20, 41, 23, 0, 46, 119, 0, 46, 140, 161, 182, 0, 205, 0, 23, 0, 0, 21, 43, 0, 182, 204, 204, 182, 225, 143, 0, 21, 46, 98, 204, 255]
def gm_wc : List (Nat) := [72, 145, 138, 65, 274, 57, 676, 672, 310, 398, 406, 486, 517, 513, 555, 551, 421, 478, 529, 445, 534, 453, 460, 441, 467, 472, 543, 539, 680, 698, 689, 684, 412, 417, 496, 491, 482, 504, 500, 521, 509, 525, 628, 706, 611, 607, 624, 632, 616, 602, 641, 636, 646, 598, 711, 719, 702, 730, 733, 582, 590, 586, 578, 594, 574, 745, 749, 652, 725, 569, 661, 669, 665, 657, 560, 0]
def gm_wi : List (Nat) := [39, 41, 40, 38, 42, 37, 36, 36, 37, 37, 37, 38, 40, 38, 38, 37, 38, 39, 37, 37, 37, 37, 37, 37, 37, 37, 40, 37, 36, 40, 37, 36, 37, 37, 40, 38, 37, 37, 37, 38, 37, 37, 39, 37, 39, 38, 38, 39, 38, 38, 38, 38, 38, 38, 37, 51, 36, 37, 49, 39, 41, 40, 38, 38, 37, 37, 37, 37, 36, 37, 37, 37, 37, 37, 37, 36]
def gm_hw : List (Bool) := [false, false, false, false, false, false, false, false, false, false, false, false, false, false, false, false, false, false, false, false, false, false, false, false, false, false, false, false, true, false, false, true, false, false, false, false, false, false, false, false, false, false, false, false, false, false, false, false, false, false, false, false, false, false, false, false, false, false, false, false, false, false, false, false, false, false, false, false, false, false, false, false, false, false, false, false]
def gm_K : List (Nat) := [0, 1, 2, 3, 4, 5, 6, 6, 5, 5, 5, 3, 2, 3, 3, 5, 3, 0, 5, 5, 5, 5, 5, 5, 5, 5, 2, 5, 6, 2, 5, 6, 5, 5, 2, 3, 5, 5, 5, 3, 5, 5, 0, 5, 0, 3, 3, 0, 3, 3, 3, 3, 3, 3, 5, 7, 6, 5, 8, 0, 1, 2, 3, 3, 5, 5, 5, 5, 6, 5, 5, 5, 5, 5, 5, 6]
def gc_N : List (String) := ["FlyTower$Bar", "FlyTower$Move", "FlyTower$Cue", "FlyTower$Rig", "FlyTower$Piece", "FlyTower", "FlyTowerLaw", "java/lang/Integer", "java/lang/Math"]
def gm_T : List (List (Nat × String × Nat × Nat × Nat × String × Bool)) := [[], [], [], [], [], [], [], [], [(13, "java/lang/IllegalArgumentException", 30, 32, 34, "a LIMIT is 10 to 300", false), (35, "java/lang/IllegalStateException", 41, 43, 45, "there are 8 BARS", false)], [(11, "java/lang/IllegalArgumentException", 30, 62, 34, "a WEIGHT is 1 to 90", false), (31, "java/lang/IllegalArgumentException", 30, 64, 34, "a DROP is 0 to 60", false), (50, "java/lang/IllegalArgumentException", 30, 66, 34, "a THICKNESS is 0 to 2", false), (69, "java/lang/IllegalStateException", 41, 71, 45, "there are 10 PIECES", false)], [(11, "java/lang/IllegalArgumentException", 30, 82, 34, "a CUE is 0 to 5, or NONE", false), (33, "java/lang/IllegalStateException", 41, 87, 45, "there are 6 CUES", false)], [(12, "java/lang/IndexOutOfBoundsException", 84, 91, 88, "no such CUE", false)], [], [], [], [(213, "java/lang/IllegalArgumentException", 30, 277, 34, "what is 0 to 15", true)], [(12, "java/lang/IndexOutOfBoundsException", 84, 86, 88, "no such BAR", false)], [], [(164, "java/lang/IllegalArgumentException", 30, 235, 34, "what is 0 to 11", false)], [(12, "java/lang/IndexOutOfBoundsException", 329, 331, 333, "no such PIECE", true)], [(56, "java/lang/IllegalArgumentException", 30, 237, 34, "what is 0 to 3", false)], [(11, "java/lang/IllegalStateException", 41, 189, 45, "a CUE RUNS", false), (28, "java/lang/IllegalStateException", 41, 336, 45, "HEIGHT is above 0", true)], [], [(24, "java/lang/IllegalStateException", 41, 162, 45, "that PIECE is not in the STORE", false), (58, "java/lang/IllegalStateException", 41, 171, 45, "LOAD would be above LIMIT", false)], [(14, "java/lang/IllegalStateException", 41, 176, 45, "that PIECE is in the STORE", false)], [(20, "java/lang/IllegalArgumentException", 30, 178, 34, "a COUNTER is 0 to 300", false), (37, "java/lang/IllegalStateException", 41, 180, 45, "that BAR has a MOTOR", false)], [(12, "java/lang/IndexOutOfBoundsException", 29, 31, 33, "no such MOVE", false)], [(88, "java/lang/IllegalArgumentException", 30, 249, 34, "what is 0 to 5", false)], [], [], [(30, "java/lang/IllegalArgumentException", 30, 106, 34, "a TARGET is 0 to 120", false), (53, "java/lang/IllegalArgumentException", 30, 108, 34, "a SPEED is 1 to 6", false), (75, "java/lang/IllegalArgumentException", 30, 110, 34, "a DELAY is 0 to 20", false), (96, "java/lang/IllegalStateException", 41, 115, 45, "that CUE RUNS", false), (116, "java/lang/IllegalStateException", 41, 120, 45, "that CUE has 6 MOVES", false), (139, "java/lang/IllegalStateException", 41, 126, 45, "that CUE has a MOVE of that BAR", false)], [], [(9, "java/lang/IllegalArgumentException", 30, 146, 34, "a CREW is 0 to 5", false)], [], [], [], [(20, "java/lang/IllegalStateException", 41, 189, 45, "a CUE RUNS", false)], [(11, "java/lang/IllegalStateException", 41, 334, 45, "no CUE RUNS", true)], [], [], [], [], [], [], [], [], [], [], [], [], [], [], [], [], [(11, "java/lang/IllegalArgumentException", 30, 210, 34, "seconds are 1 to 120", false), (36, "java/lang/IllegalStateException", 41, 215, 45, "NOW would be above 3000", false)], [], [], [], [], [], [], [], [], [], [], [], [], [(11, "java/lang/IllegalArgumentException", 30, 286, 34, "seconds are 1 to 60", true)], [], [], [], [], [], [(9, "java/lang/IllegalArgumentException", 30, 292, 34, "a bit is no PIECE", true)], [], []]
def gc_fl : List (List (Nat × Nat × Nat × Nat × Option String × String)) := [[(7, 0, 9, 96, none, "FlyTower$Bar"), (13, 0, 0, 74, none, "FlyTower$Bar"), (17, 0, 1, 77, none, "FlyTower$Bar"), (20, 0, 2, 80, none, "FlyTower$Bar"), (23, 0, 3, 82, none, "FlyTower$Bar"), (26, 0, 4, 85, none, "FlyTower$Bar"), (29, 0, 5, 87, none, "FlyTower$Bar"), (32, 0, 6, 89, none, "FlyTower$Bar"), (35, 0, 7, 91, none, "FlyTower$Bar"), (38, 0, 8, 93, none, "FlyTower$Bar"), (41, 0, 10, 99, none, "FlyTower$Bar"), (44, 0, 11, 102, none, "FlyTower$Bar"), (47, 0, 12, 104, none, "FlyTower$Bar")], [(9, 2, 4, 160, none, "FlyTower$Move"), (15, 2, 0, 147, none, "FlyTower$Move"), (18, 2, 1, 151, none, "FlyTower$Move"), (21, 2, 2, 154, none, "FlyTower$Move"), (24, 2, 3, 157, none, "FlyTower$Move"), (27, 2, 5, 164, none, "FlyTower$Move")], [(9, 1, 2, 187, none, "FlyTower$Cue"), (17, 1, 0, 181, none, "FlyTower$Cue"), (22, 1, 1, 184, none, "FlyTower$Cue"), (36, 2, 0, 148, some "FlyTower", "FlyTower$Move"), (39, 2, 4, 161, some "FlyTower", "FlyTower$Move"), (42, 2, 5, 165, some "FlyTower", "FlyTower$Move")], [(9, 4, 4, 205, none, "FlyTower$Rig"), (15, 4, 7, 210, none, "FlyTower$Rig"), (18, 4, 17, 230, none, "FlyTower$Rig"), (23, 4, 0, 197, none, "FlyTower$Rig"), (32, 4, 2, 201, none, "FlyTower$Rig"), (37, 4, 1, 199, none, "FlyTower$Rig"), (44, 4, 3, 203, none, "FlyTower$Rig"), (50, 4, 5, 207, none, "FlyTower$Rig"), (53, 4, 6, 208, none, "FlyTower$Rig"), (56, 4, 8, 212, none, "FlyTower$Rig"), (60, 4, 9, 214, none, "FlyTower$Rig"), (63, 4, 10, 216, none, "FlyTower$Rig"), (66, 4, 11, 218, none, "FlyTower$Rig"), (69, 4, 12, 220, none, "FlyTower$Rig"), (72, 4, 13, 222, none, "FlyTower$Rig"), (75, 4, 14, 224, none, "FlyTower$Rig"), (78, 4, 15, 226, none, "FlyTower$Rig"), (81, 4, 16, 228, none, "FlyTower$Rig"), (93, 0, 10, 100, some "FlyTower", "FlyTower$Bar"), (107, 0, 3, 83, some "FlyTower", "FlyTower$Bar"), (110, 0, 12, 105, some "FlyTower", "FlyTower$Bar"), (120, 1, 2, 189, some "FlyTower", "FlyTower$Cue"), (126, 1, 1, 186, some "FlyTower", "FlyTower$Cue"), (129, 1, 0, 183, some "FlyTower", "FlyTower$Cue"), (133, 2, 4, 162, some "FlyTower", "FlyTower$Move"), (138, 2, 3, 159, some "FlyTower", "FlyTower$Move"), (141, 2, 0, 150, some "FlyTower", "FlyTower$Move"), (159, 0, 1, 79, some "FlyTower", "FlyTower$Bar"), (162, 0, 8, 95, some "FlyTower", "FlyTower$Bar"), (165, 0, 9, 98, some "FlyTower", "FlyTower$Bar"), (168, 2, 5, 166, some "FlyTower", "FlyTower$Move"), (169, 2, 2, 156, some "FlyTower", "FlyTower$Move"), (172, 2, 1, 153, some "FlyTower", "FlyTower$Move"), (188, 0, 0, 76, some "FlyTower", "FlyTower$Bar")], [(9, 3, 3, 279, none, "FlyTower$Piece")], [(10, 5, 0, 290, none, "FlyTower"), (16, 5, 1, 291, none, "FlyTower"), (21, 5, 2, 292, none, "FlyTower"), (26, 5, 4, 294, none, "FlyTower"), (37, 4, 1, 200, some "FlyTower", "FlyTower$Rig"), (46, 4, 0, 198, some "FlyTower", "FlyTower$Rig"), (50, 0, 1, 78, some "FlyTower", "FlyTower$Bar"), (56, 0, 2, 81, some "FlyTower", "FlyTower$Bar"), (59, 0, 0, 75, some "FlyTower", "FlyTower$Bar"), (68, 5, 3, 293, none, "FlyTower"), (73, 3, 0, 276, some "FlyTower", "FlyTower$Piece"), (76, 3, 1, 277, some "FlyTower", "FlyTower$Piece"), (79, 3, 2, 278, some "FlyTower", "FlyTower$Piece"), (84, 4, 3, 204, some "FlyTower", "FlyTower$Rig"), (89, 4, 2, 202, some "FlyTower", "FlyTower$Rig"), (93, 1, 2, 188, some "FlyTower", "FlyTower$Cue"), (112, 4, 7, 211, some "FlyTower", "FlyTower$Rig"), (117, 1, 1, 185, some "FlyTower", "FlyTower$Cue"), (128, 1, 0, 182, some "FlyTower", "FlyTower$Cue"), (132, 2, 0, 149, some "FlyTower", "FlyTower$Move"), (137, 2, 1, 152, some "FlyTower", "FlyTower$Move"), (140, 2, 2, 155, some "FlyTower", "FlyTower$Move"), (143, 2, 3, 158, some "FlyTower", "FlyTower$Move"), (148, 4, 4, 206, some "FlyTower", "FlyTower$Rig"), (151, 0, 8, 94, some "FlyTower", "FlyTower$Bar"), (154, 0, 9, 97, some "FlyTower", "FlyTower$Bar"), (161, 3, 3, 280, some "FlyTower", "FlyTower$Piece"), (168, 0, 5, 88, some "FlyTower", "FlyTower$Bar"), (182, 0, 4, 86, some "FlyTower", "FlyTower$Bar"), (198, 4, 8, 213, some "FlyTower", "FlyTower$Rig"), (207, 0, 10, 101, some "FlyTower", "FlyTower$Bar"), (212, 4, 6, 209, some "FlyTower", "FlyTower$Rig"), (217, 4, 10, 217, some "FlyTower", "FlyTower$Rig"), (223, 0, 3, 84, some "FlyTower", "FlyTower$Bar"), (226, 0, 6, 90, some "FlyTower", "FlyTower$Bar"), (229, 0, 7, 92, some "FlyTower", "FlyTower$Bar"), (232, 0, 11, 103, some "FlyTower", "FlyTower$Bar"), (243, 2, 4, 163, some "FlyTower", "FlyTower$Move"), (246, 2, 5, 167, some "FlyTower", "FlyTower$Move"), (255, 4, 9, 215, some "FlyTower", "FlyTower$Rig"), (258, 4, 11, 219, some "FlyTower", "FlyTower$Rig"), (261, 4, 12, 221, some "FlyTower", "FlyTower$Rig"), (264, 4, 13, 223, some "FlyTower", "FlyTower$Rig"), (267, 4, 14, 225, some "FlyTower", "FlyTower$Rig"), (270, 4, 15, 227, some "FlyTower", "FlyTower$Rig"), (273, 4, 16, 229, some "FlyTower", "FlyTower$Rig"), (283, 4, 17, 231, some "FlyTower", "FlyTower$Rig")], [], [], []]
def gc_nw : List (List (Nat × Nat × Nat × Nat × Nat)) := [[], [], [(15, 2, 140, 142, 41)], [(21, 0, 67, 69, 39), (30, 1, 133, 135, 40)], [], [(7, 4, 61, 62, 38), (19, 3, 269, 271, 42)], [(9, 5, 53, 54, 37)], [], []]
def g_tys : List FieldType := [.int, .long, .object "FlyTower$Move", .object "FlyTower$Bar", .object "FlyTower$Cue", .object "FlyTower$Piece"]
def gc_an : List (List (Nat × Nat × Nat × Nat)) := [[], [], [(15, 2, 140, 141)], [(21, 3, 67, 68), (30, 4, 133, 134)], [], [(19, 5, 269, 270)], [], [], []]
def g_acI : Nat := 306
def g_acJ : Nat := 0
def gc_iv : List (List (Nat × Nat × Nat × Nat × Nat × Nat × Nat × Nat × Nat × Option String)) := [[(1, 0, 0, 100, 0, 73, 59, 60, 0, none), (50, 17, 0, 1, 0, 612, 477, 5, 0, none)], [(3, 0, 0, 100, 0, 146, 59, 60, 0, none)], [(3, 0, 0, 100, 0, 139, 59, 60, 0, none), (21, 1, 0, 5, 2, 143, 144, 0, 0, some "FlyTower"), (25, 60, 1, 4, 2, 587, 589, 20, 0, some "FlyTower")], [(3, 0, 0, 100, 0, 66, 59, 60, 0, none), (27, 0, 1, 5, 0, 70, 71, 0, 0, some "FlyTower"), (36, 2, 0, 5, 1, 136, 137, 0, 0, some "FlyTower"), (40, 59, 1, 4, 0, 579, 581, 18, 0, some "FlyTower"), (47, 61, 1, 4, 1, 583, 585, 19, 0, some "FlyTower"), (96, 11, 1, 1, 4, 492, 485, 6, 0, none), (100, 34, 0, 4, 1, 493, 495, 8, 0, some "FlyTower"), (103, 12, 0, 4, 1, 514, 516, 11, 0, some "FlyTower"), (113, 49, 1, 1, 4, 599, 601, 23, 0, none), (116, 51, 1, 1, 4, 633, 635, 30, 0, none), (119, 13, 0, 1, 4, 642, 512, 10, 0, none), (123, 52, 1, 1, 4, 643, 645, 32, 0, none), (144, 16, 1, 1, 4, 603, 420, 1, 0, none), (148, 45, 2, 1, 4, 604, 606, 24, 0, none), (152, 48, 2, 1, 4, 613, 615, 26, 0, none), (156, 44, 0, 4, 0, 608, 610, 25, 0, some "FlyTower"), (175, 0, 2, 102, 0, 617, 618, 619, 49, none), (181, 0, 2, 101, 0, 620, 462, 463, 49, none), (184, 46, 2, 1, 4, 621, 623, 27, 0, none), (191, 47, 1, 4, 0, 629, 631, 29, 0, some "FlyTower"), (194, 42, 2, 4, 0, 625, 627, 28, 0, some "FlyTower"), (198, 17, 0, 4, 0, 637, 477, 5, 0, some "FlyTower"), (201, 50, 2, 1, 4, 638, 640, 31, 0, none), (205, 39, 0, 1, 4, 647, 520, 12, 0, none), (208, 35, 1, 1, 4, 648, 490, 7, 0, none)], [(3, 0, 0, 100, 0, 275, 59, 60, 0, none)], [(1, 0, 0, 100, 0, 58, 59, 60, 0, none), (9, 3, 0, 5, 4, 63, 64, 0, 0, some "FlyTower"), (25, 4, 0, 5, 3, 272, 273, 0, 0, some "FlyTower"), (98, 11, 1, 4, 4, 483, 485, 6, 0, some "FlyTower"), (102, 16, 1, 4, 4, 418, 420, 1, 0, some "FlyTower"), (122, 29, 1, 4, 1, 695, 697, 35, 0, some "FlyTower"), (157, 19, 1, 1, 5, 442, 444, 2, 0, none), (164, 21, 1, 1, 5, 450, 452, 3, 0, none), (173, 22, 1, 1, 5, 457, 459, 4, 0, none), (185, 17, 0, 4, 0, 475, 477, 5, 0, some "FlyTower"), (191, 35, 1, 4, 4, 488, 490, 7, 0, some "FlyTower"), (195, 37, 0, 1, 5, 501, 503, 9, 0, none), (201, 13, 0, 4, 4, 510, 512, 10, 0, some "FlyTower"), (204, 39, 0, 4, 4, 518, 520, 12, 0, some "FlyTower"), (220, 53, 0, 4, 4, 595, 597, 22, 0, some "FlyTower"), (239, 26, 1, 4, 1, 540, 542, 13, 0, some "FlyTower"), (251, 42, 2, 4, 0, 707, 627, 28, 0, some "FlyTower"), (274, 14, 0, 4, 4, 552, 554, 14, 0, some "FlyTower"), (279, 64, 1, 1, 5, 571, 573, 16, 0, none), (288, 62, 1, 4, 4, 575, 577, 17, 0, some "FlyTower"), (294, 70, 2, 0, 5, 659, 660, 0, 0, none), (298, 72, 2, 1, 5, 662, 664, 33, 0, none), (306, 15, 1, 1, 5, 563, 549, 550, 0, none), (309, 18, 2, 1, 5, 564, 527, 528, 0, none), (312, 20, 2, 1, 5, 565, 532, 533, 0, none), (315, 69, 2, 1, 5, 566, 568, 15, 0, none), (319, 67, 1, 1, 5, 649, 650, 651, 0, none), (322, 73, 1, 1, 5, 654, 655, 656, 0, none), (325, 27, 3, 1, 5, 570, 537, 538, 0, none), (338, 0, 2, 101, 0, 461, 462, 463, 49, none), (343, 63, 0, 4, 4, 591, 593, 21, 0, some "FlyTower"), (346, 71, 3, 1, 5, 666, 668, 34, 0, none)], [(11, 5, 0, 2, 5, 55, 56, 0, 0, none), (12, 6, 2, 0, 0, 674, 675, 0, 0, none), (18, 7, 2, 0, 0, 670, 671, 0, 0, none), (22, 8, 2, 1, 5, 307, 308, 309, 0, none), (26, 9, 3, 1, 5, 395, 396, 397, 0, none), (30, 10, 1, 1, 5, 403, 404, 405, 0, none), (34, 15, 1, 1, 5, 548, 549, 550, 0, none), (37, 18, 2, 1, 5, 526, 527, 528, 0, none), (40, 20, 2, 1, 5, 531, 532, 533, 0, none), (43, 23, 2, 1, 5, 438, 439, 440, 0, none), (46, 24, 1, 1, 5, 464, 465, 466, 0, none), (49, 0, 2, 101, 0, 726, 462, 463, 49, none), (54, 25, 2, 1, 5, 469, 470, 471, 0, none), (57, 28, 2, 6, 0, 678, 679, 0, 0, none), (61, 31, 6, 6, 0, 682, 683, 0, 0, none), (65, 27, 3, 1, 5, 536, 537, 538, 0, none), (68, 32, 1, 1, 5, 409, 410, 411, 0, none), (71, 33, 3, 1, 5, 414, 415, 416, 0, none), (74, 36, 1, 1, 5, 479, 480, 481, 0, none), (77, 38, 1, 1, 5, 497, 498, 499, 0, none), (81, 40, 0, 1, 5, 506, 507, 508, 0, none), (85, 41, 2, 1, 5, 522, 523, 524, 0, none), (89, 56, 2, 0, 0, 700, 701, 0, 0, none), (92, 68, 2, 0, 0, 723, 724, 0, 0, none), (96, 74, 0, 1, 5, 557, 558, 559, 0, none), (102, 30, 5, 1, 5, 686, 687, 688, 0, none), (107, 43, 2, 1, 5, 703, 704, 705, 0, none), (111, 54, 1, 1, 5, 708, 709, 710, 0, none), (114, 0, 1, 103, 0, 714, 715, 716, 49, none), (117, 55, 1, 0, 0, 717, 718, 0, 0, none), (122, 57, 0, 1, 5, 727, 728, 729, 0, none), (126, 58, 1, 0, 0, 731, 732, 0, 0, none), (131, 65, 1, 1, 5, 742, 743, 744, 0, none), (134, 66, 1, 1, 5, 746, 747, 748, 0, none), (137, 67, 1, 1, 5, 750, 650, 651, 0, none)], [], [(79, 0, 1, 105, 0, 734, 736, 735, 52, none), (166, 0, 1, 106, 0, 738, 740, 739, 52, none)]]
def gc_cs : List (List (Nat × Value × Nat)) := [[], [], [], [], [], [(302, .long (9111), 561), (304, .long (31), 562)], [(7, .int (2147483647), 673), (8, .int (790386105), 677), (129, .double (4547007122018943789), 741)], [(265, .int (1431655765), 720), (266, .int (858993459), 721), (267, .int (252645135), 722)], [(135, .long (9223372036854775807), 737)]]
def gc_ct : List (List (Nat × String × Nat)) := [[], [], [], [], [], [], [(100, "java/lang/IndexOutOfBoundsException", 681), (105, "java/lang/IllegalStateException", 685)], [], []]
def g_cast : List (String × String × Nat) := [("java/lang/IllegalArgumentException", "java/lang/IllegalArgumentException", 313), ("java/lang/IllegalStateException", "java/lang/IllegalStateException", 381), ("java/lang/IndexOutOfBoundsException", "java/lang/IndexOutOfBoundsException", 424)]
def g_ylaw : Nat := 75
end
section
/-! THE PURE MEMORY: cells by relative addresses 0, 1, 2 ..; ρ gives each its address in the machine's heap. A cell is an object (its class's place in vwCl, its fields), an array (its type's place in g_ty, length, contents), or nothing that is told (none). -/
abbrev gE : Type := (Nat × List Value) ⊕ (Nat × Nat × ((Nat → Int32) ⊕ (Nat → Int64) ⊕ (Nat → Option Nat)))
abbrev gM : Type := Nat × (Nat → Option gE)
def g_tr (ρ : Nat → Nat) : Value → Value := fun v => match v with
  | .ref k => .ref (ρ k)
  | w => w
def g_trA (cA : ClassId) (ρ : Nat → Nat) (x : Nat × ((Nat → Int32) ⊕ (Nat → Int64) ⊕ (Nat → Option Nat))) : ClassId × vp_A := match x.2 with
  | .inl f => (cA, x.1, .inl f)
  | .inr (.inl f) => (cA, x.1, .inr (.inl f))
  | .inr (.inr f) => (cA, x.1, .inr (.inr (.inr (.inr (fun i => (f i).map ρ)))))
def g_trE (cA : Nat → ClassId) (ρ : Nat → Nat) (e : gE) : va_E := match e with
  | .inl o => .inr (o.1, o.2.map (g_tr ρ))
  | .inr a => .inl (g_trA (cA a.1) ρ a.2)
def g_wd (cA : Nat → ClassId) (ρ : Nat → Nat) (M : gM) : va_W := (List.range M.1).filterMap (fun k => (M.2 k).map (fun e => (ρ k, g_trE cA ρ e)))
theorem g_wd_succ (cA : Nat → ClassId) (ρ : Nat → Nat) (n : Nat) (f : Nat → Option gE) : g_wd cA ρ (n + 1, f) = g_wd cA ρ (n, f) ++ ((f n).map (fun e => (ρ n, g_trE cA ρ e))).toList := by
  simp only [g_wd, List.range_succ, List.filterMap_append]
  cases h : f n <;> simp [h]
theorem g_wd_congr {cA : Nat → ClassId} {ρ ρ' : Nat → Nat} {f f' : Nat → Option gE} : ∀ {n : Nat}, (∀ k, k < n → f k = f' k) → (∀ k, k < n → ∀ e, f k = some e → ρ k = ρ' k ∧ g_trE cA ρ e = g_trE cA ρ' e) → g_wd cA ρ (n, f) = g_wd cA ρ' (n, f')
  | 0, _, _ => rfl
  | n + 1, h1, h2 => by
    rw [g_wd_succ, g_wd_succ, g_wd_congr (fun k hk => h1 k (Nat.lt_succ_of_lt hk)) (fun k hk => h2 k (Nat.lt_succ_of_lt hk)), ← h1 n (Nat.lt_succ_self n)]
    cases he : f n with
    | none => rfl
    | some e =>
      obtain ⟨a, b⟩ := h2 n (Nat.lt_succ_self n) e he
      simp only [Option.map_some, a, b]
/-- a cell's place in the world, and what writing there gives -/
theorem g_at {cA : Nat → ClassId} {ρ : Nat → Nat} {f : Nat → Option gE} {k : Nat} {e : gE} : ∀ {n : Nat}, k < n → f k = some e → ∃ q0, (g_wd cA ρ (n, f))[q0]? = some (ρ k, g_trE cA ρ e) ∧ ∀ e', (g_wd cA ρ (n, f)).set q0 (ρ k, g_trE cA ρ e') = g_wd cA ρ (n, va_up f k (some e'))
  | 0, h, _ => absurd h (Nat.not_lt_zero k)
  | n + 1, h, he => by
    rcases Nat.lt_or_ge k n with hk | hk
    · obtain ⟨q0, h1, h2⟩ := g_at (cA := cA) (ρ := ρ) hk he
      have hlt : q0 < (g_wd cA ρ (n, f)).length := (List.getElem?_eq_some_iff.mp h1).1
      refine ⟨q0, by rw [g_wd_succ, List.getElem?_append_left hlt]; exact h1, fun e' => ?_⟩
      rw [g_wd_succ, g_wd_succ, List.set_append_left q0 _ hlt, h2 e']
      have hn : va_up f k (some e') n = f n := by unfold va_up; rw [if_neg (Nat.ne_of_gt hk)]
      rw [hn]
    · have hkn : k = n := Nat.le_antisymm (Nat.lt_succ_iff.mp h) hk
      subst hkn
      refine ⟨(g_wd cA ρ (k, f)).length, ?_, fun e' => ?_⟩
      · rw [g_wd_succ, he, List.getElem?_append_right (Nat.le_refl _)]
        simp
      · rw [g_wd_succ, g_wd_succ, he]
        have hs : va_up f k (some e') k = some e' := by unfold va_up; rw [if_pos rfl]
        have hc : g_wd cA ρ (k, va_up f k (some e')) = g_wd cA ρ (k, f) := g_wd_congr (fun j hj => by unfold va_up; rw [if_neg (Nat.ne_of_lt hj)]) (fun _ _ _ _ => ⟨rfl, rfl⟩)
        rw [hs, hc, List.set_append_right _ _ (Nat.le_refl _)]
        simp
/-- a value's own reference lies below n -/
def g_ok (n : Nat) : Value → Bool := fun v => match v with
  | .ref k => decide (k < n)
  | _ => true
def g_okE (n : Nat) (e : gE) : Prop := match e with
  | .inl o => ∀ v ∈ o.2, g_ok n v = true
  | .inr a => match a.2.2 with
    | .inl _ => True
    | .inr (.inl _) => True
    | .inr (.inr f) => ∀ i k, f i = some k → k < n
def g_WF (M : gM) : Prop := ∀ k, k < M.1 → ∀ e, M.2 k = some e → g_okE M.1 e
theorem g_ok_mono {n n' : Nat} (h : n ≤ n') {v : Value} (hv : g_ok n v = true) : g_ok n' v = true := by
  cases v <;> first | rfl | (simp only [g_ok, decide_eq_true_eq] at hv ⊢; exact Nat.lt_of_lt_of_le hv h)
theorem g_okE_mono {n n' : Nat} (h : n ≤ n') {e : gE} (he : g_okE n e) : g_okE n' e := by
  rcases e with o | ⟨t, len, f | f | f⟩
  · exact fun v hv => g_ok_mono h (he v hv)
  · trivial
  · trivial
  · exact fun i k hk => Nat.lt_of_lt_of_le (he i k hk) h
/-- ρ' agrees with ρ below n -/
def g_ag (n : Nat) (ρ ρ' : Nat → Nat) : Prop := ∀ k, k < n → ρ' k = ρ k
theorem g_ag.rf {n : Nat} {ρ : Nat → Nat} : g_ag n ρ ρ := fun _ _ => rfl
theorem g_ag.trans {n n' : Nat} {ρ ρ1 ρ2 : Nat → Nat} (h1 : g_ag n ρ ρ1) (hn : n ≤ n') (h2 : g_ag n' ρ1 ρ2) : g_ag n ρ ρ2 := fun k hk => (h2 k (Nat.lt_of_lt_of_le hk hn)).trans (h1 k hk)
theorem g_ag.up {n : Nat} {ρ : Nat → Nat} {q : Nat} : g_ag n ρ (va_up ρ n q) := fun k hk => by unfold va_up; rw [if_neg (Nat.ne_of_lt hk)]
theorem g_tr_ag {n : Nat} {ρ ρ' : Nat → Nat} (h : g_ag n ρ ρ') {v : Value} (hv : g_ok n v = true) : g_tr ρ' v = g_tr ρ v := by
  cases v <;> first | rfl | (simp only [g_ok, decide_eq_true_eq] at hv; simp only [g_tr, h _ hv])
theorem g_trs_ag {n : Nat} {ρ ρ' : Nat → Nat} (h : g_ag n ρ ρ') {l : List Value} (hl : l.all (g_ok n) = true) : l.map (g_tr ρ') = l.map (g_tr ρ) :=
  List.map_congr_left fun v hv => g_tr_ag h (List.all_eq_true.mp hl v hv)
abbrev gL : Type := List (Nat × Value)
def g_trL (ρ : Nat → Nat) (lv : gL) : gL := lv.map (fun q => (q.1, g_tr ρ q.2))
theorem g_trL_ag {n : Nat} {ρ ρ' : Nat → Nat} (h : g_ag n ρ ρ') {lv : gL} (hl : lv.all (fun q => g_ok n q.2) = true) : g_trL ρ' lv = g_trL ρ lv :=
  List.map_congr_left fun q hq => by rw [g_tr_ag h (List.all_eq_true.mp hl q hq)]
theorem g_trE_ag {cA : Nat → ClassId} {n : Nat} {ρ ρ' : Nat → Nat} (h : g_ag n ρ ρ') {e : gE} (he : g_okE n e) : g_trE cA ρ' e = g_trE cA ρ e := by
  rcases e with o | ⟨t, len, f | f | f⟩
  · show Sum.inr (o.1, o.2.map (g_tr ρ')) = Sum.inr (o.1, o.2.map (g_tr ρ))
    rw [List.map_congr_left fun v hv => g_tr_ag h (he v hv)]
  · rfl
  · rfl
  · have e : (fun i => (f i).map ρ') = fun i => (f i).map ρ := funext fun i => by
      cases hi : f i with
      | none => rfl
      | some k => simp only [Option.map_some, h k (he i k hi)]
    show Sum.inl (cA t, len, Sum.inr (Sum.inr (Sum.inr (Sum.inr (fun i => (f i).map ρ'))))) = Sum.inl (cA t, len, Sum.inr (Sum.inr (Sum.inr (Sum.inr (fun i => (f i).map ρ)))))
    rw [e]
theorem g_wd_ag {cA : Nat → ClassId} {ρ ρ' : Nat → Nat} {M : gM} (hw : g_WF M) (h : g_ag M.1 ρ ρ') : g_wd cA ρ' M = g_wd cA ρ M :=
  (g_wd_congr (n := M.1) (f := M.2) (f' := M.2) (fun _ _ => rfl) (fun k hk e he => ⟨h k hk, g_trE_ag h (hw k hk e he)⟩))
/-- a new cell -/
theorem g_push {cA : Nat → ClassId} {ρ : Nat → Nat} {M : gM} (hw : g_WF M) (q : Nat) (e : gE) (he : g_okE M.1 e) : g_wd cA (va_up ρ M.1 q) (M.1 + 1, va_up M.2 M.1 (some e)) = g_wd cA ρ M ++ [(q, g_trE cA ρ e)] := by
  have h0 : va_up M.2 M.1 (some e) M.1 = some e := by unfold va_up; rw [if_pos rfl]
  have hq : va_up ρ M.1 q M.1 = q := by unfold va_up; rw [if_pos rfl]
  have hc : g_wd cA (va_up ρ M.1 q) (M.1, va_up M.2 M.1 (some e)) = g_wd cA ρ M := by
    rw [← g_wd_ag hw (g_ag.up (q := q))]
    exact g_wd_congr (fun j hj => by unfold va_up; rw [if_neg (Nat.ne_of_lt hj)]) (fun _ _ _ _ => ⟨rfl, rfl⟩)
  rw [g_wd_succ, h0, hc, Option.map_some, hq, g_trE_ag g_ag.up he]
  rfl
/-- a cell of which nothing is told -/
theorem g_dark {cA : Nat → ClassId} {ρ : Nat → Nat} {M : gM} (hw : g_WF M) (q : Nat) : g_wd cA (va_up ρ M.1 q) (M.1 + 1, va_up M.2 M.1 none) = g_wd cA ρ M := by
  have h0 : va_up M.2 M.1 (none : Option gE) M.1 = none := by unfold va_up; rw [if_pos rfl]
  have hc : g_wd cA (va_up ρ M.1 q) (M.1, va_up M.2 M.1 none) = g_wd cA ρ M := by
    rw [← g_wd_ag hw (g_ag.up (q := q))]
    exact g_wd_congr (fun j hj => by unfold va_up; rw [if_neg (Nat.ne_of_lt hj)]) (fun _ _ _ _ => ⟨rfl, rfl⟩)
  rw [g_wd_succ, h0, hc]
  simp
theorem g_WF_up {M : gM} (hw : g_WF M) {k : Nat} {e : gE} (he : g_okE M.1 e) : g_WF (M.1, va_up M.2 k (some e)) := fun j hj e' h => by
  by_cases hk : j = k
  · subst hk
    have h1 : va_up M.2 j (some e) j = some e := by unfold va_up; rw [if_pos rfl]
    cases h1.symm.trans h
    exact he
  · have h1 : va_up M.2 k (some e) j = M.2 j := by unfold va_up; rw [if_neg hk]
    exact hw j hj e' (h1.symm.trans h)
theorem g_WF_new {M : gM} (hw : g_WF M) {e : Option gE} (he : ∀ e', e = some e' → g_okE (M.1 + 1) e') : g_WF (M.1 + 1, va_up M.2 M.1 e) := fun j hj e' h => by
  by_cases hk : j = M.1
  · subst hk
    have h1 : va_up M.2 M.1 e M.1 = e := by unfold va_up; rw [if_pos rfl]
    exact he e' (h1.symm.trans h)
  · have h1 : va_up M.2 M.1 e j = M.2 j := by unfold va_up; rw [if_neg hk]
    have hj' : j < M.1 := Nat.lt_of_le_of_ne (Nat.lt_succ_iff.mp hj) hk
    exact g_okE_mono (Nat.le_succ _) (hw j hj' e' (h1.symm.trans h))
/-- the words that are carried from frame to frame -/
def g_gw (w : Cond) : Bool := (w.onTables && w.keepsH) || (match w with
  | .arrayClass _ => true
  | .declares _ => true
  | .castable _ _ => true
  | _ => false)
theorem g_gw_moved {args args' : Array Value} {s U : State} (hW : s.WarmedH U.vm) {w : Cond} (hg : g_gw w = true) (h : w.before args s = true) : w.before args' U = true := by
  simp only [g_gw, Bool.or_eq_true, Bool.and_eq_true] at hg
  rcases hg with ⟨h1, h2⟩ | hg
  · have := Cond.onTables_warmH (args' := args') (T := U) hW h1 h2 h
    exact this
  · have : (∃ ty, w = .arrayClass ty) ∨ (∃ x, w = .declares x) ∨ ∃ a b, w = .castable a b := by
      cases w <;> first | exact Or.inl ⟨_, rfl⟩ | exact Or.inr (Or.inl ⟨_, rfl⟩) | exact Or.inr (Or.inr ⟨_, _, rfl⟩) | exact absurd hg (by simp)
    rcases this with this | ⟨x, rfl⟩ | ⟨a, b, rfl⟩
    · exact word_at hW (Or.inr this) h
    · exact va_Nw.use rfl (va_Nw.warmD hW (va_Nw.of rfl h))
    · exact va_Nw.use rfl (va_Nw.warmC hW (va_Nw.of rfl h))
theorem g_gw_ot {w : Cond} (hg : g_gw w = true) : vx_ot w = true := by
  simp only [g_gw, Bool.or_eq_true, Bool.and_eq_true] at hg
  rcases hg with ⟨h1, h2⟩ | hg
  · simp only [vx_ot, h1, Bool.true_or]
  · have : (∃ ty, w = .arrayClass ty) ∨ (∃ x, w = .declares x) ∨ ∃ a b, w = .castable a b := by
      cases w <;> first | exact Or.inl ⟨_, rfl⟩ | exact Or.inr (Or.inl ⟨_, rfl⟩) | exact Or.inr (Or.inr ⟨_, _, rfl⟩) | exact absurd hg (by simp)
    rcases this with ⟨ty, rfl⟩ | ⟨x, rfl⟩ | ⟨a, b, rfl⟩
    · simp [vx_ot, goodWord]
    · rfl
    · rfl
end
section
def gN (y : Nat) : MethodName := gm_N.getD y ⟨"", "", ""⟩
def gLo (y : Nat) : Nat := gm_L.getD y 0
def gR (y : Nat) : Option FieldType := gm_R.getD y none
def gH (y : Nat) : List (Nat × Nat × Nat × Nat) := gm_H.getD y []
def gF (y : Nat) : Nat := gm_F.getD y 0
def gW (y : Nat) : Nat := gm_W.getD y 0
def gK (y : Nat) : Nat := gm_K.getD y 0
def gOwn (y : Nat) : String := gc_N.getD (gK y) ""
def gCq (y : Nat) : ByteArray × List (List (Nat × Instr × Nat)) := gm_CI.getD y (⟨#[]⟩, [])
def gC (y : Nat) : ByteArray := (gCq y).1
def gI (y pc : Nat) : Option (Instr × Nat) := ((gCq y).2.getD (pc / 32) []).lookup pc
theorem gI_ok {y pc : Nat} {i : Instr} {n : Nat} (h : gI y pc = some (i, n)) : decode (gC y) pc = .ok (i, n) ∧ (glen i ≠ 0 → decode (gC y) pc = .ok (i, glen i)) := by
  have h1 : (pc, i, n) ∈ (gCq y).2.getD (pc / 32) [] := g_lookup_mem h
  rcases Nat.lt_or_ge (pc / 32) (gCq y).2.length with hc | hc
  · have h2 : (gCq y).2.getD (pc / 32) [] ∈ (gCq y).2 := g_getD_mem hc
    rcases Nat.lt_or_ge y gm_CI.length with hy | hy
    · have h3 : gCq y ∈ gm_CI := g_getD_mem hy
      have h4 := List.all_eq_true.mp (gv_all _ h3 _ h2) _ h1
      simp only [Bool.and_eq_true, Bool.or_eq_true, decide_eq_true_eq, beq_iff_eq] at h4
      obtain ⟨h5, h6⟩ := h4
      refine ⟨h5, fun h0 => ?_⟩
      rcases h6 with h6 | h6
      · rw [h6]; exact h5
      · exact absurd h6 h0
    · have : gCq y = (⟨#[]⟩, []) := g_getD_ge hy
      rw [this] at hc
      exact absurd hc (Nat.not_lt_zero _)
  · rw [g_getD_ge hc] at h1
    cases h1
end
section
def g_nc : List (String × String) := []
end
section
def g_pI {α : Type} (st : List Value) (F : Int32 → List Value → Option α) : Option α := match st with
  | .int x :: t => F x t
  | _ => none
theorem g_pI_i {α : Type} {st : List Value} {F : Int32 → List Value → Option α} {r : α} (h : g_pI st F = some r) : ∃ (x : Int32) (t : List Value), st = .int x :: t ∧ F x t = some r := by
  unfold g_pI at h
  split at h
  · exact ⟨_, _, rfl, h⟩
  · cases h
def g_pII {α : Type} (st : List Value) (F : Int32 → Int32 → List Value → Option α) : Option α := match st with
  | .int x2 :: .int x1 :: t => F x2 x1 t
  | _ => none
theorem g_pII_i {α : Type} {st : List Value} {F : Int32 → Int32 → List Value → Option α} {r : α} (h : g_pII st F = some r) : ∃ (x2 : Int32) (x1 : Int32) (t : List Value), st = .int x2 :: .int x1 :: t ∧ F x2 x1 t = some r := by
  unfold g_pII at h
  split at h
  · exact ⟨_, _, _, rfl, h⟩
  · cases h
def g_pL {α : Type} (st : List Value) (F : Int64 → List Value → Option α) : Option α := match st with
  | .long x :: t => F x t
  | _ => none
theorem g_pL_i {α : Type} {st : List Value} {F : Int64 → List Value → Option α} {r : α} (h : g_pL st F = some r) : ∃ (x : Int64) (t : List Value), st = .long x :: t ∧ F x t = some r := by
  unfold g_pL at h
  split at h
  · exact ⟨_, _, rfl, h⟩
  · cases h
def g_pLL {α : Type} (st : List Value) (F : Int64 → Int64 → List Value → Option α) : Option α := match st with
  | .long x2 :: .long x1 :: t => F x2 x1 t
  | _ => none
theorem g_pLL_i {α : Type} {st : List Value} {F : Int64 → Int64 → List Value → Option α} {r : α} (h : g_pLL st F = some r) : ∃ (x2 : Int64) (x1 : Int64) (t : List Value), st = .long x2 :: .long x1 :: t ∧ F x2 x1 t = some r := by
  unfold g_pLL at h
  split at h
  · exact ⟨_, _, _, rfl, h⟩
  · cases h
def g_pD {α : Type} (st : List Value) (F : UInt64 → List Value → Option α) : Option α := match st with
  | .double x :: t => F x t
  | _ => none
theorem g_pD_i {α : Type} {st : List Value} {F : UInt64 → List Value → Option α} {r : α} (h : g_pD st F = some r) : ∃ (x : UInt64) (t : List Value), st = .double x :: t ∧ F x t = some r := by
  unfold g_pD at h
  split at h
  · exact ⟨_, _, rfl, h⟩
  · cases h
def g_pDD {α : Type} (st : List Value) (F : UInt64 → UInt64 → List Value → Option α) : Option α := match st with
  | .double x2 :: .double x1 :: t => F x2 x1 t
  | _ => none
theorem g_pDD_i {α : Type} {st : List Value} {F : UInt64 → UInt64 → List Value → Option α} {r : α} (h : g_pDD st F = some r) : ∃ (x2 : UInt64) (x1 : UInt64) (t : List Value), st = .double x2 :: .double x1 :: t ∧ F x2 x1 t = some r := by
  unfold g_pDD at h
  split at h
  · exact ⟨_, _, _, rfl, h⟩
  · cases h
def g_pV {α : Type} (st : List Value) (F : Value → List Value → Option α) : Option α := match st with
  | v :: t => F v t
  | _ => none
theorem g_pV_i {α : Type} {st : List Value} {F : Value → List Value → Option α} {r : α} (h : g_pV st F = some r) : ∃ (v : Value) (t : List Value), st = v :: t ∧ F v t = some r := by
  unfold g_pV at h
  split at h
  · exact ⟨_, _, rfl, h⟩
  · cases h
def g_pVV {α : Type} (st : List Value) (F : Value → Value → List Value → Option α) : Option α := match st with
  | v2 :: v1 :: t => F v2 v1 t
  | _ => none
theorem g_pVV_i {α : Type} {st : List Value} {F : Value → Value → List Value → Option α} {r : α} (h : g_pVV st F = some r) : ∃ (v2 : Value) (v1 : Value) (t : List Value), st = v2 :: v1 :: t ∧ F v2 v1 t = some r := by
  unfold g_pVV at h
  split at h
  · exact ⟨_, _, _, rfl, h⟩
  · cases h
def g_pR {α : Type} (st : List Value) (F : Nat → List Value → Option α) : Option α := match st with
  | .ref a :: t => F a t
  | _ => none
theorem g_pR_i {α : Type} {st : List Value} {F : Nat → List Value → Option α} {r : α} (h : g_pR st F = some r) : ∃ (a : Nat) (t : List Value), st = .ref a :: t ∧ F a t = some r := by
  unfold g_pR at h
  split at h
  · exact ⟨_, _, rfl, h⟩
  · cases h
def g_pRI {α : Type} (st : List Value) (F : Int32 → Nat → List Value → Option α) : Option α := match st with
  | .int i :: .ref a :: t => F i a t
  | _ => none
theorem g_pRI_i {α : Type} {st : List Value} {F : Int32 → Nat → List Value → Option α} {r : α} (h : g_pRI st F = some r) : ∃ (i : Int32) (a : Nat) (t : List Value), st = .int i :: .ref a :: t ∧ F i a t = some r := by
  unfold g_pRI at h
  split at h
  · exact ⟨_, _, _, rfl, h⟩
  · cases h
def g_pRII {α : Type} (st : List Value) (F : Int32 → Int32 → Nat → List Value → Option α) : Option α := match st with
  | .int x :: .int i :: .ref a :: t => F x i a t
  | _ => none
theorem g_pRII_i {α : Type} {st : List Value} {F : Int32 → Int32 → Nat → List Value → Option α} {r : α} (h : g_pRII st F = some r) : ∃ (x : Int32) (i : Int32) (a : Nat) (t : List Value), st = .int x :: .int i :: .ref a :: t ∧ F x i a t = some r := by
  unfold g_pRII at h
  split at h
  · exact ⟨_, _, _, _, rfl, h⟩
  · cases h
def g_pRIL {α : Type} (st : List Value) (F : Int64 → Int32 → Nat → List Value → Option α) : Option α := match st with
  | .long x :: .int i :: .ref a :: t => F x i a t
  | _ => none
theorem g_pRIL_i {α : Type} {st : List Value} {F : Int64 → Int32 → Nat → List Value → Option α} {r : α} (h : g_pRIL st F = some r) : ∃ (x : Int64) (i : Int32) (a : Nat) (t : List Value), st = .long x :: .int i :: .ref a :: t ∧ F x i a t = some r := by
  unfold g_pRIL at h
  split at h
  · exact ⟨_, _, _, _, rfl, h⟩
  · cases h
def g_pRIR {α : Type} (st : List Value) (F : Nat → Int32 → Nat → List Value → Option α) : Option α := match st with
  | .ref v :: .int i :: .ref a :: t => F v i a t
  | _ => none
theorem g_pRIR_i {α : Type} {st : List Value} {F : Nat → Int32 → Nat → List Value → Option α} {r : α} (h : g_pRIR st F = some r) : ∃ (v : Nat) (i : Int32) (a : Nat) (t : List Value), st = .ref v :: .int i :: .ref a :: t ∧ F v i a t = some r := by
  unfold g_pRIR at h
  split at h
  · exact ⟨_, _, _, _, rfl, h⟩
  · cases h
def g_pRV {α : Type} (st : List Value) (F : Value → Nat → List Value → Option α) : Option α := match st with
  | v :: .ref a :: t => F v a t
  | _ => none
theorem g_pRV_i {α : Type} {st : List Value} {F : Value → Nat → List Value → Option α} {r : α} (h : g_pRV st F = some r) : ∃ (v : Value) (a : Nat) (t : List Value), st = v :: .ref a :: t ∧ F v a t = some r := by
  unfold g_pRV at h
  split at h
  · exact ⟨_, _, _, rfl, h⟩
  · cases h
abbrev gCf : Type := Nat × gL × List Value × gM × Nat × Nat
def g_tg (pc : Nat) (off : Int) : Option Nat := if (((((pc : Int) + off).toNat : Nat) : Int) = (pc : Int) + off) then some ((pc : Int) + off).toNat else none
theorem g_tg_i {pc : Nat} {off : Int} {t : Nat} (h : g_tg pc off = some t) : (pc : Int) + off = (t : Int) := by
  unfold g_tg at h
  split at h
  · next q => cases h; exact q.symm
  · cases h
def g_st1 (lv : gL) (i : Nat) (v : Value) : gL := (i, v) :: lv.filter (fun q => !(q.1 == i) && !(q.1 + 1 == i && q.2.category == 2))
def g_st2 (lv : gL) (i : Nat) (v : Value) : gL := (i, v) :: lv.filter (fun q => !(q.1 == i) && (!(q.1 == i + 1) && !(q.1 + 1 == i && q.2.category == 2)))
theorem g_tr_cat (ρ : Nat → Nat) (v : Value) : (g_tr ρ v).category = v.category := by cases v <;> rfl
theorem g_st1_tr (ρ : Nat → Nat) (lv : gL) (i : Nat) (v : Value) : (i, g_tr ρ v) :: (g_trL ρ lv).filter (fun q => !(q.1 == i) && !(q.1 + 1 == i && q.2.category == 2)) = g_trL ρ (g_st1 lv i v) := by
  simp only [g_trL, g_st1, List.map_cons, List.filter_map]
  congr 2
  exact List.filter_congr (fun q _ => by simp only [Function.comp, g_tr_cat])
theorem g_st2_tr (ρ : Nat → Nat) (lv : gL) (i : Nat) (v : Value) : (i, g_tr ρ v) :: (g_trL ρ lv).filter (fun q => !(q.1 == i) && (!(q.1 == i + 1) && !(q.1 + 1 == i && q.2.category == 2))) = g_trL ρ (g_st2 lv i v) := by
  simp only [g_trL, g_st2, List.map_cons, List.filter_map]
  congr 2
  exact List.filter_congr (fun q _ => by simp only [Function.comp, g_tr_cat])
theorem g_ld {ρ : Nat → Nat} {lv : gL} {ls : Array Slot} {n i : Nat} {v : Value} (hl : lv_has ls n (g_trL ρ lv)) (h : lv.lookup i = some v) : ls[i]? = some (.val (g_tr ρ v)) :=
  hl.2.2 (i, g_tr ρ v) (List.mem_map.mpr ⟨(i, v), g_lookup_mem h, rfl⟩)
def g_isRef : FieldType → Bool
  | .object _ => true
  | .array _ => true
  | _ => false
def g_put (ty : FieldType) (v : Value) : Bool := match v with
  | .ref _ => g_isRef ty
  | v => decide (narrow ty v = v) && fits ty v
theorem g_put_tr {ty : FieldType} {v : Value} (h : g_put ty v = true) (ρ : Nat → Nat) : narrow ty (g_tr ρ v) = g_tr ρ v ∧ fits ty (g_tr ρ v) = true := by
  cases v with
  | ref k =>
    cases ty <;> first | exact ⟨rfl, rfl⟩ | (cases h)
  | _ =>
    simp only [g_put, Bool.and_eq_true, decide_eq_true_eq] at h
    exact h
def gFld (y ix : Nat) : Option (Nat × Nat × Nat × Option String × String) := (gc_fl.getD (gK y) []).lookup ix
def gNw (y ix : Nat) : Option (Nat × Nat × Nat × Nat) := (gc_nw.getD (gK y) []).lookup ix
def gAn (y ix : Nat) : Option (Nat × Nat × Nat) := (gc_an.getD (gK y) []).lookup ix
def gIv (y ix : Nat) : Option (Nat × Nat × Nat × Nat × Nat × Nat × Nat × Nat × Option String) := (gc_iv.getD (gK y) []).lookup ix
def gCs (y ix : Nat) : Option (Value × Nat) := (gc_cs.getD (gK y) []).lookup ix
def g_cl (ci : Nat) : vw_C := vwCl.getD ci ("", fun _ => ("", "", "", false), 0)
def g_ft (ci k : Nat) : FieldType := (parseFieldDescriptor ((g_cl ci).2.1 k).2.2.1).getD .int
def g_df (ci : Nat) : List Value := (List.range (g_cl ci).2.2).map (fun k => defaultValue (g_ft ci k))
def g_rd (M : gM) (a : Nat) : Option gE := if a < M.1 then M.2 a else none
def g_ix (i : Int32) (n : Nat) : Bool := !(decide (i < 0) || decide (n ≤ i.toNatClampNeg))
def g_c1 (cd : Jvm.ClassFile.Cond) (x : Int32) : Bool := match cd with
  | .eq => decide (x = 0)
  | .ne => decide (¬ x = 0)
  | .lt => decide (x < 0)
  | .ge => decide (0 ≤ x)
  | .gt => decide (0 < x)
  | .le => decide (x ≤ 0)
def g_c2 (cd : Jvm.ClassFile.Cond) (x1 x2 : Int32) : Bool := match cd with
  | .eq => decide (x1 = x2)
  | .ne => decide (¬ x1 = x2)
  | .lt => decide (x1 < x2)
  | .ge => decide (x2 ≤ x1)
  | .gt => decide (x2 < x1)
  | .le => decide (x1 ≤ x2)
def g_obj (tg : Nat) : Bool := match g_tys[tg]? with
  | some (.object _) => true
  | _ => false
/-- a final field may be put by its own class's constructor alone -/
def g_pf (y ci k : Nat) (host : Option String) : Bool := !((g_cl ci).2.1 k).2.2.2 || (((gN y).name == "<init>") && ((((g_cl ci).2.1 k).1 == gOwn y) && host.isNone))
/-- one step within a frame; none: not told here -/
def g_stp (xs : Nat → Int32) (L y : Nat) (i : Instr) (pc : Nat) (lv : gL) (st : List Value) (M : gM) (c d : Nat) : Option gCf := match i with
  | .iconst v => some (pc + 1, lv, .int (Int32.ofInt v) :: st, M, c, d)
  | .lconst v => some (pc + 1, lv, .long (Int64.ofNat (v : Nat)) :: st, M, c, d)
  | .bipush v => some (pc + 2, lv, .int (Int8.ofInt v).toInt32 :: st, M, c, d)
  | .sipush v => some (pc + 3, lv, .int (Int16.ofInt v).toInt32 :: st, M, c, d)
  | .aconst_null => some (pc + 1, lv, .null :: st, M, c, d)
  | .iadd => g_pII st fun x2 x1 t => some (pc + 1, lv, .int (x1 + x2) :: t, M, c, d)
  | .isub => g_pII st fun x2 x1 t => some (pc + 1, lv, .int (x1 - x2) :: t, M, c, d)
  | .imul => g_pII st fun x2 x1 t => some (pc + 1, lv, .int (x1 * x2) :: t, M, c, d)
  | .iand => g_pII st fun x2 x1 t => some (pc + 1, lv, .int (x1 &&& x2) :: t, M, c, d)
  | .ior => g_pII st fun x2 x1 t => some (pc + 1, lv, .int (x1 ||| x2) :: t, M, c, d)
  | .ishl => g_pII st fun x2 x1 t => some (pc + 1, lv, .int (x1 <<< (x2 &&& 31)) :: t, M, c, d)
  | .ishr => g_pII st fun x2 x1 t => some (pc + 1, lv, .int (x1 >>> (x2 &&& 31)) :: t, M, c, d)
  | .iushr => g_pII st fun x2 x1 t => some (pc + 1, lv, .int (x1.toUInt32 >>> (x2.toUInt32 &&& Int32.toUInt32 31)).toInt32 :: t, M, c, d)
  | .idiv => g_pII st fun x2 x1 t => if ¬ x2 = 0 then some (pc + 1, lv, .int (x1 / x2) :: t, M, c, d) else none
  | .irem => g_pII st fun x2 x1 t => if ¬ x2 = 0 then some (pc + 1, lv, .int (x1 - x1 / x2 * x2) :: t, M, c, d) else none
  | .ineg => g_pI st fun x t => some (pc + 1, lv, .int (-x) :: t, M, c, d)
  | .ladd => g_pLL st fun x2 x1 t => some (pc + 1, lv, .long (x1 + x2) :: t, M, c, d)
  | .land => g_pLL st fun x2 x1 t => some (pc + 1, lv, .long (x1 &&& x2) :: t, M, c, d)
  | .lmul => g_pLL st fun x2 x1 t => some (pc + 1, lv, .long (x1 * x2) :: t, M, c, d)
  | .i2l => g_pI st fun x t => some (pc + 1, lv, .long x.toInt64 :: t, M, c, d)
  | .i2d => g_pI st fun x t => some (pc + 1, lv, .double (FP.i2d x) :: t, M, c, d)
  | .lcmp => g_pLL st fun x2 x1 t => some (pc + 1, lv, .int (lg_cmp x1 x2) :: t, M, c, d)
  | .dcmp op => g_pDD st fun x2 x1 t => some (pc + 1, lv, .int (Op.cmpValue (FP.dcmp x1 x2) op) :: t, M, c, d)
  | .ddiv => g_pDD st fun x2 x1 t => if FP.ddiv x1 x2 &&& 0x7fffffffffffffff ≤ 0x7ff0000000000000 then some (pc + 1, lv, .double (FP.ddiv x1 x2) :: t, M, c, d) else none
  | .dmul => g_pDD st fun x2 x1 t => if FP.dmul x1 x2 &&& 0x7fffffffffffffff ≤ 0x7ff0000000000000 then some (pc + 1, lv, .double (FP.dmul x1 x2) :: t, M, c, d) else none
  | .dsub => g_pDD st fun x2 x1 t => if FP.dsub x1 x2 &&& 0x7fffffffffffffff ≤ 0x7ff0000000000000 then some (pc + 1, lv, .double (FP.dsub x1 x2) :: t, M, c, d) else none
  | .dconst v => if v = 0 then some (pc + 1, lv, .double FP.dconst0 :: st, M, c, d) else none
  | .dup => g_pV st fun v t => if v.category = 1 then some (pc + 1, lv, v :: v :: t, M, c, d) else none
  | .pop => g_pV st fun v t => if v.category = 1 then some (pc + 1, lv, t, M, c, d) else none
  | .dup_x1 => g_pVV st fun v2 v1 t => if v2.category = 1 ∧ v1.category = 1 then some (pc + 1, lv, v2 :: v1 :: v2 :: t, M, c, d) else none
  | .dup2 => g_pVV st fun v2 v1 t => if v2.category = 1 ∧ v1.category = 1 then some (pc + 1, lv, v2 :: v1 :: v2 :: v1 :: t, M, c, d) else none
  | .iload i => match lv.lookup i with
    | some (.int x) => some (pc + 2, lv, .int x :: st, M, c, d)
    | _ => none
  | .iload_n i => match lv.lookup (i : Nat) with
    | some (.int x) => some (pc + 1, lv, .int x :: st, M, c, d)
    | _ => none
  | .lload i => match lv.lookup i with
    | some (.long x) => some (pc + 2, lv, .long x :: st, M, c, d)
    | _ => none
  | .lload_n i => match lv.lookup (i : Nat) with
    | some (.long x) => some (pc + 1, lv, .long x :: st, M, c, d)
    | _ => none
  | .dload i => match lv.lookup i with
    | some (.double x) => some (pc + 2, lv, .double x :: st, M, c, d)
    | _ => none
  | .dload_n i => match lv.lookup (i : Nat) with
    | some (.double x) => some (pc + 1, lv, .double x :: st, M, c, d)
    | _ => none
  | .aload i => match lv.lookup i with
    | some (.ref x) => some (pc + 2, lv, .ref x :: st, M, c, d)
    | _ => none
  | .aload_n i => match lv.lookup (i : Nat) with
    | some (.ref x) => some (pc + 1, lv, .ref x :: st, M, c, d)
    | _ => none
  | .istore i => g_pI st fun x t => if i < gLo y then some (pc + 2, g_st1 lv i (.int x), t, M, c, d) else none
  | .istore_n i => g_pI st fun x t => if (i : Nat) < gLo y then some (pc + 1, g_st1 lv (i : Nat) (.int x), t, M, c, d) else none
  | .lstore i => g_pL st fun x t => if i + 1 < gLo y then some (pc + 2, g_st2 lv i (.long x), t, M, c, d) else none
  | .lstore_n i => g_pL st fun x t => if (i : Nat) + 1 < gLo y then some (pc + 1, g_st2 lv (i : Nat) (.long x), t, M, c, d) else none
  | .dstore i => g_pD st fun x t => if i + 1 < gLo y then some (pc + 2, g_st2 lv i (.double x), t, M, c, d) else none
  | .dstore_n i => g_pD st fun x t => if (i : Nat) + 1 < gLo y then some (pc + 1, g_st2 lv (i : Nat) (.double x), t, M, c, d) else none
  | .astore i => g_pR st fun a t => if i < gLo y then some (pc + 2, g_st1 lv i (.ref a), t, M, c, d) else none
  | .astore_n i => g_pR st fun a t => if (i : Nat) < gLo y then some (pc + 1, g_st1 lv (i : Nat) (.ref a), t, M, c, d) else none
  | .iinc i v => match lv.lookup i with
    | some (.int x) => if i < gLo y then some (pc + 3, g_st1 lv i (.int (x + Int32.ofInt v)), st, M, c, d) else none
    | _ => none
  | .ifCond cd off => (g_tg pc off).bind fun tg => g_pI st fun x t => some (if g_c1 cd x then tg else pc + 3, lv, t, M, c, d)
  | .if_icmp cd off => (g_tg pc off).bind fun tg => g_pII st fun x2 x1 t => some (if g_c2 cd x1 x2 then tg else pc + 3, lv, t, M, c, d)
  | .goto off => (g_tg pc off).bind fun tg => some (tg, lv, st, M, c, d)
  | .ifnull off => (g_tg pc off).bind fun tg => g_pV st fun v t => match v with
    | .ref _ => some (pc + 3, lv, t, M, c, d)
    | .null => some (tg, lv, t, M, c, d)
    | _ => none
  | .ifnonnull off => (g_tg pc off).bind fun tg => g_pV st fun v t => match v with
    | .ref _ => some (tg, lv, t, M, c, d)
    | .null => some (pc + 3, lv, t, M, c, d)
    | _ => none
  | .tableswitch df lo hi offs => g_pI st fun x t => if x.toInt < lo ∨ hi < x.toInt then (g_tg pc df).bind fun tg => some (tg, lv, t, M, c, d) else (offs[(x.toInt - lo).toNat]?).bind fun off => (g_tg pc off).bind fun tg => some (tg, lv, t, M, c, d)
  | .ldc ix => match gCs y ix with
    | some (.int x, _) => some (pc + 2, lv, .int x :: st, M, c, d)
    | _ => none
  | .ldc2_w ix => match gCs y ix with
    | some (.long x, _) => some (pc + 3, lv, .long x :: st, M, c, d)
    | some (.double x, _) => some (pc + 3, lv, .double x :: st, M, c, d)
    | _ => none
  | .getfield ix => match gFld y ix with
    | none => none
    | some (ci, k, _, _, _) => g_pR st fun a t => match g_rd M a with
      | some (.inl (cj, fs)) => if cj = ci then (fs[k]?).bind fun v => some (pc + 3, lv, v :: t, M, c, d) else none
      | _ => none
  | .putfield ix => match gFld y ix with
    | none => none
    | some (ci, k, _, host, _) => g_pRV st fun v a t => match g_rd M a with
      | some (.inl (cj, fs)) => if cj = ci ∧ k < fs.length ∧ g_put (g_ft ci k) v = true ∧ g_ok M.1 v = true ∧ g_pf y ci k host = true then some (pc + 3, lv, t, (M.1, va_up M.2 a (some (.inl (ci, fs.set k v)))), c, d) else none
      | _ => none
  | .new ix => match gNw y ix with
    | none => none
    | some (ci, _, _, _) => if lv.all (fun q => g_ok M.1 q.2) = true ∧ st.all (g_ok M.1) = true then some (pc + 3, lv, .ref M.1 :: st, (M.1 + 1, va_up M.2 M.1 (some (.inl (ci, g_df ci)))), c + 1, d + (g_cl ci).2.2) else none
  | .newarray at_ => g_pI st fun x t => if ¬ x < 0 ∧ x.toNatClampNeg ≤ 65536 ∧ lv.all (fun q => g_ok M.1 q.2) = true ∧ t.all (g_ok M.1) = true then (match at_ with
      | .int => some (pc + 2, lv, .ref M.1 :: t, (M.1 + 1, va_up M.2 M.1 (some (.inr (0, x.toNatClampNeg, .inl (fun _ => 0))))), c + 1, d + x.toNatClampNeg)
      | _ => none) else none
  | .anewarray ix => match gAn y ix with
    | none => none
    | some (tg, _, _) => g_pI st fun x t => if ¬ x < 0 ∧ x.toNatClampNeg ≤ 65536 ∧ lv.all (fun q => g_ok M.1 q.2) = true ∧ t.all (g_ok M.1) = true then some (pc + 3, lv, .ref M.1 :: t, (M.1 + 1, va_up M.2 M.1 (some (.inr (tg, x.toNatClampNeg, .inr (.inr (fun _ => none)))))), c + 1, d + x.toNatClampNeg) else none
  | .arraylength => g_pR st fun a t => if a = 0 then some (pc + 1, lv, .int (Int32.ofNat L) :: t, M, c, d) else match g_rd M a with
      | some (.inr (_, n, _)) => some (pc + 1, lv, .int (Int32.ofNat n) :: t, M, c, d)
      | _ => none
  | .iaload => g_pRI st fun i a t => if a = 0 then (if g_ix i L = true then some (pc + 1, lv, .int (xs i.toNatClampNeg) :: t, M, c, d) else none) else match g_rd M a with
      | some (.inr (0, n, .inl f)) => if g_ix i n = true then some (pc + 1, lv, .int (f i.toNatClampNeg) :: t, M, c, d) else none
      | _ => none
  | .laload => g_pRI st fun i a t => match g_rd M a with
      | some (.inr (1, n, .inr (.inl f))) => if g_ix i n = true then some (pc + 1, lv, .long (f i.toNatClampNeg) :: t, M, c, d) else none
      | _ => none
  | .aaload => g_pRI st fun i a t => match g_rd M a with
      | some (.inr (tg, n, .inr (.inr f))) => if g_ix i n = true ∧ g_obj tg = true then some (pc + 1, lv, va_rf (f i.toNatClampNeg) :: t, M, c, d) else none
      | _ => none
  | .iastore => g_pRII st fun x i a t => match g_rd M a with
      | some (.inr (0, n, .inl f)) => if g_ix i n = true then some (pc + 1, lv, t, (M.1, va_up M.2 a (some (.inr (0, n, .inl (upd f i.toNatClampNeg x))))), c, d) else none
      | _ => none
  | .lastore => g_pRIL st fun x i a t => match g_rd M a with
      | some (.inr (1, n, .inr (.inl f))) => if g_ix i n = true then some (pc + 1, lv, t, (M.1, va_up M.2 a (some (.inr (1, n, .inr (.inl (vp_updL f i.toNatClampNeg x)))))), c, d) else none
      | _ => none
  | .aastore => g_pRIR st fun v i a t => match g_rd M a, g_rd M v with
      | some (.inr (tg, n, .inr (.inr f))), some (.inl (ci, _)) => if g_ix i n = true ∧ g_tys[tg]? = some (.object (g_cl ci).1) ∧ ci < vwCl.length then some (pc + 1, lv, t, (M.1, va_up M.2 a (some (.inr (tg, n, .inr (.inr (va_up f i.toNatClampNeg (some v))))))), c, d) else none
      | _, _ => none
  | .invokestatic ix => match gIv y ix with
    | some (_, _, 101, _) => g_pII st fun x2 x1 t => if (t.map fun v => v.category).sum ≤ 8 ∧ 1 ≤ gF y ∧ 21 ≤ gW y then some (pc + 3, lv, .int (if x1 < x2 then x2 else x1) :: t, M, c, d) else none
    | some (_, _, 102, _) => g_pII st fun x2 x1 t => if (t.map fun v => v.category).sum ≤ 8 ∧ 1 ≤ gF y ∧ 21 ≤ gW y then some (pc + 3, lv, .int (if x2 < x1 then x2 else x1) :: t, M, c, d) else none
    | some (_, _, 105, _) => g_pD st fun x t => if (t.map fun v => v.category).sum ≤ 8 ∧ 1 ≤ gF y ∧ 23 ≤ gW y then some (pc + 3, lv, .long x.toInt64 :: t, M, c, d) else none
    | some (_, _, 106, _) => g_pL st fun x t => if vn_snl2d x = false ∧ (t.map fun v => v.category).sum ≤ 8 ∧ 1 ≤ gF y ∧ 23 ≤ gW y then some (pc + 3, lv, .double x.toUInt64 :: t, M, c, d) else none
    | some (_, _, 103, _) => g_pI st fun x t => if (t.map fun v => v.category).sum ≤ 8 ∧ 1 ≤ gF y ∧ 21 ≤ gW y then some (pc + 3, lv, .int (if 0 ≤ x then x else 0 - x) :: t, M, c, d) else none
    | _ => none
  | .invokespecial ix => match gIv y ix with
    | some (_, _, 100, _) => g_pR st fun a t => if (t.map fun v => v.category).sum ≤ 8 ∧ 1 ≤ gF y ∧ 21 ≤ gW y then some (pc + 3, lv, t, M, c, d) else none
    | _ => none
  | _ => none
end
section
theorem g_w {args : Array Value} {s : State} (hts : ∀ w ∈ lw_tbl, g_gw w = true → va_Nw w s) {w : Cond} {j : Nat} (h : lw_tbl[j]? = some w ∧ g_gw w = true) : w.before args s = true :=
  g_gw_moved (State.WarmedH.refl s) h.2 (hts w (List.mem_of_getElem? h.1) h.2)
def gp_w (j : Nat) (w : Cond) : Bool := decide (lw_tbl[j]? = some w) && g_gw w
theorem gp_w_ok {j : Nat} {w : Cond} (h : gp_w j w = true) : lw_tbl[j]? = some w ∧ g_gw w = true := by
  simp only [gp_w, Bool.and_eq_true, decide_eq_true_eq] at h
  exact h
def gp_lk (own : String) (ix : Nat) (ref n ds : String) (host : Option String) : Cond := match host with
  | none => .fieldLink own ix ref n ds
  | some h => .fieldLinkNest own ix ref n ds h
def gp_fl (c ix : Nat) (v : Nat × Nat × Nat × Option String × String) : Bool := match v with
  | (ci, k, j, host, ref) => decide (ci < vwCl.length) && (decide (k < (g_cl ci).2.2) && ((decide (ref = ((g_cl ci).2.1 k).1) || lw_tbl.any (fun w => decide (w = .sameField ref ((g_cl ci).2.1 k).1 ((g_cl ci).2.1 k).2.1 ((g_cl ci).2.1 k).2.2.1) && g_gw w)) && gp_w j (gp_lk (gc_N.getD c "") ix ref ((g_cl ci).2.1 k).2.1 ((g_cl ci).2.1 k).2.2.1 host)))
set_option maxRecDepth 100000 in
theorem gv_fl : (List.range gc_fl.length).all (fun c => (gc_fl.getD c []).all (fun e => gp_fl c e.1 e.2)) = true := by decide +kernel
def gp_nw (c ix : Nat) (v : Nat × Nat × Nat × Nat) : Bool := match v with
  | (ci, j, j1, j2) => decide (ci < vwCl.length) && (gp_w j (.classLink (gc_N.getD c "") ix (g_cl ci).1) && (gp_w j1 (.instantiable (g_cl ci).1 (g_cl ci).2.2) && gp_w j2 (.initialized (g_cl ci).1)))
set_option maxRecDepth 100000 in
theorem gv_nw : (List.range gc_nw.length).all (fun c => (gc_nw.getD c []).all (fun e => gp_nw c e.1 e.2)) = true := by decide +kernel
def gp_an (c ix : Nat) (v : Nat × Nat × Nat) : Bool := match v with
  | (tg, j, j1) => match g_tys[tg]? with
    | some (.object C) => gp_w j (.classLink (gc_N.getD c "") ix C)
    | _ => false
set_option maxRecDepth 100000 in
theorem gv_an : (List.range gc_an.length).all (fun c => (gc_an.getD c []).all (fun e => gp_an c e.1 e.2)) = true := by decide +kernel
def gp_cs (c ix : Nat) (v : Value × Nat) : Bool := match v with
  | (.int x, j) => gp_w j (.constant (gc_N.getD c "") ix x)
  | (.long x, j) => gp_w j (.constantLong (gc_N.getD c "") ix x)
  | (.double x, j) => gp_w j (.constantDouble (gc_N.getD c "") ix x)
  | _ => false
set_option maxRecDepth 100000 in
theorem gv_cs : (List.range gc_cs.length).all (fun c => (gc_cs.getD c []).all (fun e => gp_cs c e.1 e.2)) = true := by decide +kernel
theorem gv_cs_int {y ix : Nat} {x : Int32} {j : Nat} (h : gCs y ix = some (.int x, j)) : lw_tbl[j]? = some (.constant (gOwn y) ix x) ∧ g_gw (.constant (gOwn y) ix x) = true := gp_w_ok (g_look gv_cs h)
theorem gv_cs_long {y ix : Nat} {x : Int64} {j : Nat} (h : gCs y ix = some (.long x, j)) : lw_tbl[j]? = some (.constantLong (gOwn y) ix x) ∧ g_gw (.constantLong (gOwn y) ix x) = true := gp_w_ok (g_look gv_cs h)
theorem gv_cs_double {y ix : Nat} {x : UInt64} {j : Nat} (h : gCs y ix = some (.double x, j)) : lw_tbl[j]? = some (.constantDouble (gOwn y) ix x) ∧ g_gw (.constantDouble (gOwn y) ix x) = true := gp_w_ok (g_look gv_cs h)
def gp_cl (ci : Nat) : Bool := (u_ws (g_cl ci).1 (g_cl ci).2.1 (g_cl ci).2.2).all (fun w => lw_tbl.any (fun w2 => decide (w2 = w)) && g_gw w) && ((List.range (g_cl ci).2.2).all (fun k => decide (parseFieldDescriptor ((g_cl ci).2.1 k).2.2.1 = some (g_ft ci k))) && (List.range (g_cl ci).2.2).all (fun a => (List.range (g_cl ci).2.2).all (fun b => a == b || decide (((g_cl ci).2.1 a).2.1 ≠ ((g_cl ci).2.1 b).2.1))))
set_option maxRecDepth 100000 in
theorem gv_cl : (List.range vwCl.length).all gp_cl = true := by decide +kernel
theorem g_cl_at {ci : Nat} (h : ci < vwCl.length) : vwCl[ci]? = some ((g_cl ci).1, (g_cl ci).2.1, (g_cl ci).2.2) := by
  show vwCl[ci]? = some (g_cl ci)
  unfold g_cl
  rw [List.getD_eq_getElem?_getD, List.getElem?_eq_getElem h]
  rfl
theorem g_cl_ok {ci : Nat} (h : ci < vwCl.length) : (∀ w ∈ u_ws (g_cl ci).1 (g_cl ci).2.1 (g_cl ci).2.2, w ∈ lw_tbl ∧ g_gw w = true) ∧ (∀ k, k < (g_cl ci).2.2 → parseFieldDescriptor ((g_cl ci).2.1 k).2.2.1 = some (g_ft ci k)) ∧ (∀ a, a < (g_cl ci).2.2 → ∀ b, b < (g_cl ci).2.2 → a ≠ b → ((g_cl ci).2.1 a).2.1 ≠ ((g_cl ci).2.1 b).2.1) := by
  have h1 := List.all_eq_true.mp gv_cl ci (List.mem_range.mpr h)
  simp only [gp_cl, Bool.and_eq_true] at h1
  obtain ⟨h1, h2, h3⟩ := h1
  refine ⟨fun w hw => ?_, fun k hk => ?_, fun a ha b hb hab => ?_⟩
  · have h4 := List.all_eq_true.mp h1 w hw
    simp only [Bool.and_eq_true, List.any_eq_true, decide_eq_true_eq] at h4
    obtain ⟨⟨w2, hm, rfl⟩, h5⟩ := h4
    exact ⟨hm, h5⟩
  · exact of_decide_eq_true (List.all_eq_true.mp h2 k (List.mem_range.mpr hk))
  · have h4 := List.all_eq_true.mp (List.all_eq_true.mp h3 a (List.mem_range.mpr ha)) b (List.mem_range.mpr hb)
    simp only [Bool.or_eq_true, beq_iff_eq, decide_eq_true_eq] at h4
    rcases h4 with h4 | h4
    · exact absurd h4 hab
    · exact h4
theorem g_fl_ok {y ix ci k j : Nat} {host : Option String} {ref : String} (h : gFld y ix = some (ci, k, j, host, ref)) : ci < vwCl.length ∧ k < (g_cl ci).2.2 ∧ (ref = ((g_cl ci).2.1 k).1 ∨ ∃ j2 : Nat, lw_tbl[j2]? = some (.sameField ref ((g_cl ci).2.1 k).1 ((g_cl ci).2.1 k).2.1 ((g_cl ci).2.1 k).2.2.1) ∧ g_gw (.sameField ref ((g_cl ci).2.1 k).1 ((g_cl ci).2.1 k).2.1 ((g_cl ci).2.1 k).2.2.1) = true) ∧ gp_w j (gp_lk (gOwn y) ix ref ((g_cl ci).2.1 k).2.1 ((g_cl ci).2.1 k).2.2.1 host) = true := by
  have h1 := g_look gv_fl h
  simp only [gp_fl, Bool.and_eq_true, Bool.or_eq_true, decide_eq_true_eq, List.any_eq_true] at h1
  obtain ⟨h2, h3, h4, h5⟩ := h1
  refine ⟨h2, h3, ?_, h5⟩
  rcases h4 with h4 | ⟨w, hm, rfl, hg⟩
  · exact Or.inl h4
  · obtain ⟨j2, hj⟩ := List.getElem?_of_mem hm
    exact Or.inr ⟨j2, hj, hg⟩
theorem g_nw_ok {y ix ci j j1 j2 : Nat} (h : gNw y ix = some (ci, j, j1, j2)) : ci < vwCl.length ∧ gp_w j (.classLink (gOwn y) ix (g_cl ci).1) = true ∧ gp_w j1 (.instantiable (g_cl ci).1 (g_cl ci).2.2) = true ∧ gp_w j2 (.initialized (g_cl ci).1) = true := by
  have h1 := g_look gv_nw h
  simp only [gp_nw, Bool.and_eq_true, decide_eq_true_eq] at h1
  exact h1
theorem g_an_ok {y ix tg j j1 : Nat} (h : gAn y ix = some (tg, j, j1)) : ∃ C, g_tys[tg]? = some (.object C) ∧ gp_w j (.classLink (gOwn y) ix C) = true := by
  have h1 := g_look gv_an h
  simp only [gp_an] at h1
  split at h1
  · next C hC =>
    exact ⟨C, hC, h1⟩
  · cases h1
def gp_iv (c ix : Nat) (v : Nat × Nat × Nat × Nat × Nat × Nat × Nat × Nat × Option String) : Bool := match v with
  | (z, na, kd, ci, j, j1, j2, j3, host) =>
    if kd = 100 then gp_w j (.methodLink (gc_N.getD c "") ix Lib.objectInit) && (gp_w j1 (.instanceMethod Lib.objectInit) && gp_w j2 (.code Lib.objectInit ⟨#[0xb1]⟩ 1 none))
    else if kd = 101 then gp_w j (.methodLink (gc_N.getD c "") ix Lib.Math.max.name) && (gp_w j1 (.static Lib.Math.max.name) && (gp_w j2 (.code Lib.Math.max.name Lib.Math.max.code 2 (some .int)) && gp_w j3 (.initialized "java/lang/Math")))
    else if kd = 102 then gp_w j (.methodLink (gc_N.getD c "") ix Lib.Math.min.name) && (gp_w j1 (.static Lib.Math.min.name) && (gp_w j2 (.code Lib.Math.min.name Lib.Math.min.code 2 (some .int)) && gp_w j3 (.initialized "java/lang/Math")))
    else if kd = 103 then gp_w j (.methodLink (gc_N.getD c "") ix Lib.Math.abs.name) && (gp_w j1 (.static Lib.Math.abs.name) && (gp_w j2 (.code Lib.Math.abs.name Lib.Math.abs.code 1 (some .int)) && gp_w j3 (.initialized "java/lang/Math")))
    else if kd = 105 then gp_w j (.methodLink (gc_N.getD c "") ix ⟨"java/lang/Double", "doubleToRawLongBits", "(D)J"⟩) && (gp_w j1 (.native ⟨"java/lang/Double", "doubleToRawLongBits", "(D)J"⟩) && (gp_w j2 (.static ⟨"java/lang/Double", "doubleToRawLongBits", "(D)J"⟩) && gp_w j3 (.initialized "java/lang/Double")))
    else if kd = 106 then gp_w j (.methodLink (gc_N.getD c "") ix ⟨"java/lang/Double", "longBitsToDouble", "(J)D"⟩) && (gp_w j1 (.native ⟨"java/lang/Double", "longBitsToDouble", "(J)D"⟩) && (gp_w j2 (.static ⟨"java/lang/Double", "longBitsToDouble", "(J)D"⟩) && gp_w j3 (.initialized "java/lang/Double")))
    else decide (z < gm_CI.length) && (decide ((parseMethodDescriptor (gN z).desc).map (fun d => d.parameters.length) = some na) && ((match host with
      | none => gp_w j (.methodLink (gc_N.getD c "") ix (gN z))
      | some h => gp_w j (.methodLinkNest (gc_N.getD c "") ix (gN z) h)) && (if kd = 0 ∨ kd = 3 ∨ kd = 6 then gp_w j1 (.static (gN z)) && decide (host.isSome = decide (kd = 3))
        else if kd = 1 ∨ kd = 4 then gp_w j1 (.instanceMethod (gN z)) && (gp_w j2 (.selects (gN z).cls (gN z) (gN z)) && (decide (host.isSome = decide (kd = 4)) && (decide (ci < vwCl.length) && decide ((g_cl ci).1 = (gN z).cls))))
        else if kd = 2 ∨ kd = 5 then gp_w j1 (.instanceMethod (gN z)) && (decide (host.isSome = decide (kd = 5)) && (decide ((gN z).name = "<init>") && decide (gR z = none)))
        else false)))
set_option maxRecDepth 100000 in
theorem gv_iv : (List.range gc_iv.length).all (fun c => (gc_iv.getD c []).all (fun e => gp_iv c e.1 e.2)) = true := by decide +kernel
/-- a method of the tables: its code's word, its class's -/
def gp_me (y : Nat) : Bool := (decide (y = g_ylaw) || gp_w (gm_wc.getD y 0) (if gm_hw.getD y false then .codeWith (gN y) (gC y) (gLo y) (gR y) (gH y) else .code (gN y) (gC y) (gLo y) (gR y))) && (gp_w (gm_wi.getD y 0) (.initialized (gN y).cls) && (decide ((gN y).cls = gOwn y) && (decide ((gN y).cls ≠ "java/lang/invoke/MethodHandle" ∧ (gN y).cls ≠ "java/lang/invoke/VarHandle") && ((if gm_hw.getD y false = true then plainName (gN y).cls else plainFor (gN y)) && (gm_hw.getD y false || decide (gH y = []))))))
theorem gv_acI : gp_w g_acI (.arrayClass .int) = true := by decide +kernel
end
section
theorem t1 : plainFor (gN 58) = true := by decide +kernel
theorem t2 : gp_w (gm_wc.getD 58 0) (.code (gN 58) (gC 58) (gLo 58) (gR 58)) = true := by decide +kernel
theorem t3 : gp_w (gm_wi.getD 58 0) (.initialized (gN 58).cls) = true := by decide +kernel
theorem t4 : ((gN 58).cls = gOwn 58) = True := by decide +kernel
theorem t5 : gH 58 = [] := by decide +kernel
theorem t6 : decide (lw_tbl[gm_wc.getD 58 0]? = some (.code (gN 58) (gC 58) (gLo 58) (gR 58))) = true := by decide +kernel
theorem t7 : (NativeRow.find? Jvm.natives "java/lang/Math" "abs" "(D)D").isNone = true := by decide +kernel
end
