section
-- ===== PART A: goes FIRST, ahead of the names: the tables' words, and 'selects' of the private methods out of them =====
/-- a private method of a class that the tables say can be made, by its rows of tables_1 -/
def lw_okq (q : MethodName × Nat) : Prop := (q.1.cls ≠ "java/lang/invoke/MethodHandle" ∧ q.1.cls ≠ "java/lang/invoke/VarHandle") ∧ Cond.instantiable q.1.cls q.2 ∈ tables_1 ∧ Cond.privateMethod q.1 ∈ tables_1 ∧ Cond.instanceMethod q.1 ∈ tables_1
theorem lw_p0 : lw_okq (⟨"FlyTower$Rig", "openMoves", "()I"⟩, 18) := ⟨⟨by decide +kernel, by decide +kernel⟩, List.mem_of_getElem? (i := 34) (by decide +kernel), List.mem_of_getElem? (i := 294) (by decide +kernel), List.mem_of_getElem? (i := 295) (by decide +kernel)⟩
theorem lw_p1 : lw_okq (⟨"FlyTower$Rig", "cueAt", "(I)LFlyTower$Cue;"⟩, 18) := ⟨⟨by decide +kernel, by decide +kernel⟩, List.mem_of_getElem? (i := 34) (by decide +kernel), List.mem_of_getElem? (i := 298) (by decide +kernel), List.mem_of_getElem? (i := 299) (by decide +kernel)⟩
theorem lw_p2 : lw_okq (⟨"java/lang/Throwable", "fillInStackTrace", "(I)Ljava/lang/Throwable;"⟩, 6) := ⟨⟨by decide +kernel, by decide +kernel⟩, List.mem_of_getElem? (i := 340) (by decide +kernel), List.mem_of_getElem? (i := 338) (by decide +kernel), List.mem_of_getElem? (i := 339) (by decide +kernel)⟩
theorem lw_p3 : lw_okq (⟨"FlyTower$Cue", "openMoves", "()I"⟩, 3) := ⟨⟨by decide +kernel, by decide +kernel⟩, List.mem_of_getElem? (i := 107) (by decide +kernel), List.mem_of_getElem? (i := 370) (by decide +kernel), List.mem_of_getElem? (i := 371) (by decide +kernel)⟩
theorem lw_p4 : lw_okq (⟨"FlyTower$Rig", "brokenBrakes", "()I"⟩, 18) := ⟨⟨by decide +kernel, by decide +kernel⟩, List.mem_of_getElem? (i := 34) (by decide +kernel), List.mem_of_getElem? (i := 374) (by decide +kernel), List.mem_of_getElem? (i := 375) (by decide +kernel)⟩
theorem lw_p5 : lw_okq (⟨"FlyTower$Rig", "barAt", "(I)LFlyTower$Bar;"⟩, 18) := ⟨⟨by decide +kernel, by decide +kernel⟩, List.mem_of_getElem? (i := 34) (by decide +kernel), List.mem_of_getElem? (i := 398) (by decide +kernel), List.mem_of_getElem? (i := 399) (by decide +kernel)⟩
theorem lw_p6 : lw_okq (⟨"FlyTower$Bar", "difference", "()I"⟩, 13) := ⟨⟨by decide +kernel, by decide +kernel⟩, List.mem_of_getElem? (i := 41) (by decide +kernel), List.mem_of_getElem? (i := 403) (by decide +kernel), List.mem_of_getElem? (i := 404) (by decide +kernel)⟩
theorem lw_p7 : lw_okq (⟨"FlyTower", "pieceAt", "(I)LFlyTower$Piece;"⟩, 5) := ⟨⟨by decide +kernel, by decide +kernel⟩, List.mem_of_getElem? (i := 26) (by decide +kernel), List.mem_of_getElem? (i := 412) (by decide +kernel), List.mem_of_getElem? (i := 413) (by decide +kernel)⟩
theorem lw_p8 : lw_okq (⟨"FlyTower", "digestOfMoves", "(JI)J"⟩, 5) := ⟨⟨by decide +kernel, by decide +kernel⟩, List.mem_of_getElem? (i := 26) (by decide +kernel), List.mem_of_getElem? (i := 420) (by decide +kernel), List.mem_of_getElem? (i := 421) (by decide +kernel)⟩
theorem lw_p9 : lw_okq (⟨"FlyTower$Cue", "moveAt", "(I)LFlyTower$Move;"⟩, 3) := ⟨⟨by decide +kernel, by decide +kernel⟩, List.mem_of_getElem? (i := 107) (by decide +kernel), List.mem_of_getElem? (i := 429) (by decide +kernel), List.mem_of_getElem? (i := 430) (by decide +kernel)⟩
theorem lw_p10 : lw_okq (⟨"FlyTower", "rehearse", "(I)I"⟩, 5) := ⟨⟨by decide +kernel, by decide +kernel⟩, List.mem_of_getElem? (i := 26) (by decide +kernel), List.mem_of_getElem? (i := 437) (by decide +kernel), List.mem_of_getElem? (i := 438) (by decide +kernel)⟩
theorem lw_p11 : lw_okq (⟨"FlyTower$Rig", "copyFrom", "(LFlyTower$Rig;)V"⟩, 18) := ⟨⟨by decide +kernel, by decide +kernel⟩, List.mem_of_getElem? (i := 34) (by decide +kernel), List.mem_of_getElem? (i := 441) (by decide +kernel), List.mem_of_getElem? (i := 442) (by decide +kernel)⟩
theorem lw_p12 : lw_okq (⟨"FlyTower$Bar", "copyFrom", "(LFlyTower$Bar;)V"⟩, 13) := ⟨⟨by decide +kernel, by decide +kernel⟩, List.mem_of_getElem? (i := 41) (by decide +kernel), List.mem_of_getElem? (i := 445) (by decide +kernel), List.mem_of_getElem? (i := 446) (by decide +kernel)⟩
theorem lw_p13 : lw_okq (⟨"FlyTower$Cue", "copyFrom", "(LFlyTower$Cue;)V"⟩, 3) := ⟨⟨by decide +kernel, by decide +kernel⟩, List.mem_of_getElem? (i := 107) (by decide +kernel), List.mem_of_getElem? (i := 449) (by decide +kernel), List.mem_of_getElem? (i := 450) (by decide +kernel)⟩
theorem lw_p14 : lw_okq (⟨"FlyTower$Move", "copyFrom", "(LFlyTower$Move;)V"⟩, 6) := ⟨⟨by decide +kernel, by decide +kernel⟩, List.mem_of_getElem? (i := 114) (by decide +kernel), List.mem_of_getElem? (i := 453) (by decide +kernel), List.mem_of_getElem? (i := 454) (by decide +kernel)⟩
theorem lw_p15 : lw_okq (⟨"FlyTower$Rig", "mendBrakes", "()V"⟩, 18) := ⟨⟨by decide +kernel, by decide +kernel⟩, List.mem_of_getElem? (i := 34) (by decide +kernel), List.mem_of_getElem? (i := 457) (by decide +kernel), List.mem_of_getElem? (i := 458) (by decide +kernel)⟩
def lw_privs_1 : List (MethodName × Nat) := [(⟨"FlyTower$Rig", "openMoves", "()I"⟩, 18), (⟨"FlyTower$Rig", "cueAt", "(I)LFlyTower$Cue;"⟩, 18), (⟨"java/lang/Throwable", "fillInStackTrace", "(I)Ljava/lang/Throwable;"⟩, 6), (⟨"FlyTower$Cue", "openMoves", "()I"⟩, 3), (⟨"FlyTower$Rig", "brokenBrakes", "()I"⟩, 18), (⟨"FlyTower$Rig", "barAt", "(I)LFlyTower$Bar;"⟩, 18), (⟨"FlyTower$Bar", "difference", "()I"⟩, 13), (⟨"FlyTower", "pieceAt", "(I)LFlyTower$Piece;"⟩, 5), (⟨"FlyTower", "digestOfMoves", "(JI)J"⟩, 5), (⟨"FlyTower$Cue", "moveAt", "(I)LFlyTower$Move;"⟩, 3), (⟨"FlyTower", "rehearse", "(I)I"⟩, 5), (⟨"FlyTower$Rig", "copyFrom", "(LFlyTower$Rig;)V"⟩, 18), (⟨"FlyTower$Bar", "copyFrom", "(LFlyTower$Bar;)V"⟩, 13), (⟨"FlyTower$Cue", "copyFrom", "(LFlyTower$Cue;)V"⟩, 3), (⟨"FlyTower$Move", "copyFrom", "(LFlyTower$Move;)V"⟩, 6), (⟨"FlyTower$Rig", "mendBrakes", "()V"⟩, 18)]
theorem lw_r1 : ∀ q ∈ lw_privs_1, lw_okq q := List.forall_mem_cons.mpr ⟨lw_p0, List.forall_mem_cons.mpr ⟨lw_p1, List.forall_mem_cons.mpr ⟨lw_p2, List.forall_mem_cons.mpr ⟨lw_p3, List.forall_mem_cons.mpr ⟨lw_p4, List.forall_mem_cons.mpr ⟨lw_p5, List.forall_mem_cons.mpr ⟨lw_p6, List.forall_mem_cons.mpr ⟨lw_p7, List.forall_mem_cons.mpr ⟨lw_p8, List.forall_mem_cons.mpr ⟨lw_p9, List.forall_mem_cons.mpr ⟨lw_p10, List.forall_mem_cons.mpr ⟨lw_p11, List.forall_mem_cons.mpr ⟨lw_p12, List.forall_mem_cons.mpr ⟨lw_p13, List.forall_mem_cons.mpr ⟨lw_p14, List.forall_mem_cons.mpr ⟨lw_p15, fun _ h => absurd h List.not_mem_nil⟩⟩⟩⟩⟩⟩⟩⟩⟩⟩⟩⟩⟩⟩⟩⟩
theorem lw_p16 : lw_okq (⟨"FlyTower$Rig", "begin", "(I)V"⟩, 18) := ⟨⟨by decide +kernel, by decide +kernel⟩, List.mem_of_getElem? (i := 34) (by decide +kernel), List.mem_of_getElem? (i := 461) (by decide +kernel), List.mem_of_getElem? (i := 462) (by decide +kernel)⟩
theorem lw_p17 : lw_okq (⟨"FlyTower$Cue", "openAll", "()V"⟩, 3) := ⟨⟨by decide +kernel, by decide +kernel⟩, List.mem_of_getElem? (i := 107) (by decide +kernel), List.mem_of_getElem? (i := 465) (by decide +kernel), List.mem_of_getElem? (i := 466) (by decide +kernel)⟩
theorem lw_p18 : lw_okq (⟨"FlyTower$Rig", "playSecond", "()V"⟩, 18) := ⟨⟨by decide +kernel, by decide +kernel⟩, List.mem_of_getElem? (i := 34) (by decide +kernel), List.mem_of_getElem? (i := 469) (by decide +kernel), List.mem_of_getElem? (i := 470) (by decide +kernel)⟩
theorem lw_p19 : lw_okq (⟨"FlyTower$Rig", "playMoves", "(LFlyTower$Cue;)V"⟩, 18) := ⟨⟨by decide +kernel, by decide +kernel⟩, List.mem_of_getElem? (i := 34) (by decide +kernel), List.mem_of_getElem? (i := 473) (by decide +kernel), List.mem_of_getElem? (i := 474) (by decide +kernel)⟩
theorem lw_p20 : lw_okq (⟨"FlyTower$Rig", "mayGo", "(LFlyTower$Move;LFlyTower$Bar;)Z"⟩, 18) := ⟨⟨by decide +kernel, by decide +kernel⟩, List.mem_of_getElem? (i := 34) (by decide +kernel), List.mem_of_getElem? (i := 478) (by decide +kernel), List.mem_of_getElem? (i := 479) (by decide +kernel)⟩
theorem lw_p21 : lw_okq (⟨"FlyTower$Bar", "differenceWithoutSign", "()I"⟩, 13) := ⟨⟨by decide +kernel, by decide +kernel⟩, List.mem_of_getElem? (i := 41) (by decide +kernel), List.mem_of_getElem? (i := 482) (by decide +kernel), List.mem_of_getElem? (i := 483) (by decide +kernel)⟩
theorem lw_p22 : lw_okq (⟨"FlyTower$Rig", "goNearer", "(LFlyTower$Move;LFlyTower$Bar;)V"⟩, 18) := ⟨⟨by decide +kernel, by decide +kernel⟩, List.mem_of_getElem? (i := 34) (by decide +kernel), List.mem_of_getElem? (i := 487) (by decide +kernel), List.mem_of_getElem? (i := 488) (by decide +kernel)⟩
theorem lw_p23 : lw_okq (⟨"FlyTower$Rig", "touchesAnew", "(LFlyTower$Bar;I)Z"⟩, 18) := ⟨⟨by decide +kernel, by decide +kernel⟩, List.mem_of_getElem? (i := 34) (by decide +kernel), List.mem_of_getElem? (i := 497) (by decide +kernel), List.mem_of_getElem? (i := 498) (by decide +kernel)⟩
theorem lw_p24 : lw_okq (⟨"FlyTower$Bar", "touchesAt", "(ILFlyTower$Bar;)Z"⟩, 13) := ⟨⟨by decide +kernel, by decide +kernel⟩, List.mem_of_getElem? (i := 41) (by decide +kernel), List.mem_of_getElem? (i := 501) (by decide +kernel), List.mem_of_getElem? (i := 502) (by decide +kernel)⟩
theorem lw_p25 : lw_okq (⟨"FlyTower$Bar", "goTo", "(I)V"⟩, 13) := ⟨⟨by decide +kernel, by decide +kernel⟩, List.mem_of_getElem? (i := 41) (by decide +kernel), List.mem_of_getElem? (i := 505) (by decide +kernel), List.mem_of_getElem? (i := 506) (by decide +kernel)⟩
theorem lw_p26 : lw_okq (⟨"FlyTower$Rig", "runAway", "(LFlyTower$Bar;)V"⟩, 18) := ⟨⟨by decide +kernel, by decide +kernel⟩, List.mem_of_getElem? (i := 34) (by decide +kernel), List.mem_of_getElem? (i := 509) (by decide +kernel), List.mem_of_getElem? (i := 510) (by decide +kernel)⟩
theorem lw_p27 : lw_okq (⟨"FlyTower$Rig", "judgeRun", "(LFlyTower$Bar;I)V"⟩, 18) := ⟨⟨by decide +kernel, by decide +kernel⟩, List.mem_of_getElem? (i := 34) (by decide +kernel), List.mem_of_getElem? (i := 514) (by decide +kernel), List.mem_of_getElem? (i := 515) (by decide +kernel)⟩
theorem lw_p28 : lw_okq (⟨"FlyTower$Rig", "finish", "(I)V"⟩, 18) := ⟨⟨by decide +kernel, by decide +kernel⟩, List.mem_of_getElem? (i := 34) (by decide +kernel), List.mem_of_getElem? (i := 519) (by decide +kernel), List.mem_of_getElem? (i := 520) (by decide +kernel)⟩
theorem lw_p29 : lw_okq (⟨"FlyTower$Rig", "rest", "()V"⟩, 18) := ⟨⟨by decide +kernel, by decide +kernel⟩, List.mem_of_getElem? (i := 34) (by decide +kernel), List.mem_of_getElem? (i := 523) (by decide +kernel), List.mem_of_getElem? (i := 524) (by decide +kernel)⟩
theorem lw_p30 : lw_okq (⟨"FlyTower", "smallestPlace", "(II)I"⟩, 5) := ⟨⟨by decide +kernel, by decide +kernel⟩, List.mem_of_getElem? (i := 26) (by decide +kernel), List.mem_of_getElem? (i := 541) (by decide +kernel), List.mem_of_getElem? (i := 542) (by decide +kernel)⟩
theorem lw_p31 : lw_okq (⟨"FlyTower", "isBehindFormer", "(III)Z"⟩, 5) := ⟨⟨by decide +kernel, by decide +kernel⟩, List.mem_of_getElem? (i := 26) (by decide +kernel), List.mem_of_getElem? (i := 545) (by decide +kernel), List.mem_of_getElem? (i := 546) (by decide +kernel)⟩
def lw_privs_2 : List (MethodName × Nat) := [(⟨"FlyTower$Rig", "begin", "(I)V"⟩, 18), (⟨"FlyTower$Cue", "openAll", "()V"⟩, 3), (⟨"FlyTower$Rig", "playSecond", "()V"⟩, 18), (⟨"FlyTower$Rig", "playMoves", "(LFlyTower$Cue;)V"⟩, 18), (⟨"FlyTower$Rig", "mayGo", "(LFlyTower$Move;LFlyTower$Bar;)Z"⟩, 18), (⟨"FlyTower$Bar", "differenceWithoutSign", "()I"⟩, 13), (⟨"FlyTower$Rig", "goNearer", "(LFlyTower$Move;LFlyTower$Bar;)V"⟩, 18), (⟨"FlyTower$Rig", "touchesAnew", "(LFlyTower$Bar;I)Z"⟩, 18), (⟨"FlyTower$Bar", "touchesAt", "(ILFlyTower$Bar;)Z"⟩, 13), (⟨"FlyTower$Bar", "goTo", "(I)V"⟩, 13), (⟨"FlyTower$Rig", "runAway", "(LFlyTower$Bar;)V"⟩, 18), (⟨"FlyTower$Rig", "judgeRun", "(LFlyTower$Bar;I)V"⟩, 18), (⟨"FlyTower$Rig", "finish", "(I)V"⟩, 18), (⟨"FlyTower$Rig", "rest", "()V"⟩, 18), (⟨"FlyTower", "smallestPlace", "(II)I"⟩, 5), (⟨"FlyTower", "isBehindFormer", "(III)Z"⟩, 5)]
theorem lw_r2 : ∀ q ∈ lw_privs_2, lw_okq q := List.forall_mem_cons.mpr ⟨lw_p16, List.forall_mem_cons.mpr ⟨lw_p17, List.forall_mem_cons.mpr ⟨lw_p18, List.forall_mem_cons.mpr ⟨lw_p19, List.forall_mem_cons.mpr ⟨lw_p20, List.forall_mem_cons.mpr ⟨lw_p21, List.forall_mem_cons.mpr ⟨lw_p22, List.forall_mem_cons.mpr ⟨lw_p23, List.forall_mem_cons.mpr ⟨lw_p24, List.forall_mem_cons.mpr ⟨lw_p25, List.forall_mem_cons.mpr ⟨lw_p26, List.forall_mem_cons.mpr ⟨lw_p27, List.forall_mem_cons.mpr ⟨lw_p28, List.forall_mem_cons.mpr ⟨lw_p29, List.forall_mem_cons.mpr ⟨lw_p30, List.forall_mem_cons.mpr ⟨lw_p31, fun _ h => absurd h List.not_mem_nil⟩⟩⟩⟩⟩⟩⟩⟩⟩⟩⟩⟩⟩⟩⟩⟩
theorem lw_p32 : lw_okq (⟨"FlyTower$Cue", "hasMoveOf", "(I)Z"⟩, 3) := ⟨⟨by decide +kernel, by decide +kernel⟩, List.mem_of_getElem? (i := 107) (by decide +kernel), List.mem_of_getElem? (i := 608) (by decide +kernel), List.mem_of_getElem? (i := 609) (by decide +kernel)⟩
theorem lw_p33 : lw_okq (⟨"FlyTower", "refuseUnlessAtRest", "(LFlyTower$Bar;)V"⟩, 5) := ⟨⟨by decide +kernel, by decide +kernel⟩, List.mem_of_getElem? (i := 26) (by decide +kernel), List.mem_of_getElem? (i := 636) (by decide +kernel), List.mem_of_getElem? (i := 637) (by decide +kernel)⟩
theorem lw_p34 : lw_okq (⟨"FlyTower", "weigh", "(LFlyTower$Bar;)V"⟩, 5) := ⟨⟨by decide +kernel, by decide +kernel⟩, List.mem_of_getElem? (i := 26) (by decide +kernel), List.mem_of_getElem? (i := 643) (by decide +kernel), List.mem_of_getElem? (i := 644) (by decide +kernel)⟩
theorem lw_p35 : lw_okq (⟨"FlyTower", "refuseUnlessRunning", "()V"⟩, 5) := ⟨⟨by decide +kernel, by decide +kernel⟩, List.mem_of_getElem? (i := 26) (by decide +kernel), List.mem_of_getElem? (i := 679) (by decide +kernel), List.mem_of_getElem? (i := 680) (by decide +kernel)⟩
theorem lw_p36 : lw_okq (⟨"FlyTowerModel", "refuse", "(I)I"⟩, 4) := ⟨⟨by decide +kernel, by decide +kernel⟩, List.mem_of_getElem? (i := 754) (by decide +kernel), List.mem_of_getElem? (i := 882) (by decide +kernel), List.mem_of_getElem? (i := 883) (by decide +kernel)⟩
theorem lw_p37 : lw_okq (⟨"java/util/ArrayList", "add", "(Ljava/lang/Object;[Ljava/lang/Object;I)V"⟩, 3) := ⟨⟨by decide +kernel, by decide +kernel⟩, List.mem_of_getElem? (i := 760) (by decide +kernel), List.mem_of_getElem? (i := 894) (by decide +kernel), List.mem_of_getElem? (i := 895) (by decide +kernel)⟩
theorem lw_p38 : lw_okq (⟨"java/util/ArrayList", "grow", "()[Ljava/lang/Object;"⟩, 3) := ⟨⟨by decide +kernel, by decide +kernel⟩, List.mem_of_getElem? (i := 760) (by decide +kernel), List.mem_of_getElem? (i := 898) (by decide +kernel), List.mem_of_getElem? (i := 899) (by decide +kernel)⟩
theorem lw_p39 : lw_okq (⟨"java/util/ArrayList", "grow", "(I)[Ljava/lang/Object;"⟩, 3) := ⟨⟨by decide +kernel, by decide +kernel⟩, List.mem_of_getElem? (i := 760) (by decide +kernel), List.mem_of_getElem? (i := 902) (by decide +kernel), List.mem_of_getElem? (i := 903) (by decide +kernel)⟩
theorem lw_p40 : lw_okq (⟨"FlyTowerModel", "isCue", "(I)Z"⟩, 4) := ⟨⟨by decide +kernel, by decide +kernel⟩, List.mem_of_getElem? (i := 754) (by decide +kernel), List.mem_of_getElem? (i := 958) (by decide +kernel), List.mem_of_getElem? (i := 959) (by decide +kernel)⟩
theorem lw_p41 : lw_okq (⟨"FlyTowerModel", "isBar", "(I)Z"⟩, 4) := ⟨⟨by decide +kernel, by decide +kernel⟩, List.mem_of_getElem? (i := 754) (by decide +kernel), List.mem_of_getElem? (i := 962) (by decide +kernel), List.mem_of_getElem? (i := 963) (by decide +kernel)⟩
theorem lw_p42 : lw_okq (⟨"FlyTowerModel", "isPiece", "(I)Z"⟩, 4) := ⟨⟨by decide +kernel, by decide +kernel⟩, List.mem_of_getElem? (i := 754) (by decide +kernel), List.mem_of_getElem? (i := 1039) (by decide +kernel), List.mem_of_getElem? (i := 1040) (by decide +kernel)⟩
theorem lw_p43 : lw_okq (⟨"FlyTowerModel", "isLow", "(I)Z"⟩, 4) := ⟨⟨by decide +kernel, by decide +kernel⟩, List.mem_of_getElem? (i := 754) (by decide +kernel), List.mem_of_getElem? (i := 1043) (by decide +kernel), List.mem_of_getElem? (i := 1044) (by decide +kernel)⟩
theorem lw_p44 : lw_okq (⟨"FlyTowerModel", "weigh", "(I)V"⟩, 4) := ⟨⟨by decide +kernel, by decide +kernel⟩, List.mem_of_getElem? (i := 754) (by decide +kernel), List.mem_of_getElem? (i := 1047) (by decide +kernel), List.mem_of_getElem? (i := 1048) (by decide +kernel)⟩
theorem lw_p45 : lw_okq (⟨"FlyTowerModel$Tower", "act", "()I"⟩, 15) := ⟨⟨by decide +kernel, by decide +kernel⟩, List.mem_of_getElem? (i := 789) (by decide +kernel), List.mem_of_getElem? (i := 1106) (by decide +kernel), List.mem_of_getElem? (i := 1107) (by decide +kernel)⟩
theorem lw_p46 : lw_okq (⟨"FlyTowerModel$Tower", "go", "([I)I"⟩, 15) := ⟨⟨by decide +kernel, by decide +kernel⟩, List.mem_of_getElem? (i := 789) (by decide +kernel), List.mem_of_getElem? (i := 1114) (by decide +kernel), List.mem_of_getElem? (i := 1115) (by decide +kernel)⟩
theorem lw_p47 : lw_okq (⟨"FlyTowerModel$Tower", "isHeld", "(II)Z"⟩, 15) := ⟨⟨by decide +kernel, by decide +kernel⟩, List.mem_of_getElem? (i := 789) (by decide +kernel), List.mem_of_getElem? (i := 1120) (by decide +kernel), List.mem_of_getElem? (i := 1121) (by decide +kernel)⟩
def lw_privs_3 : List (MethodName × Nat) := [(⟨"FlyTower$Cue", "hasMoveOf", "(I)Z"⟩, 3), (⟨"FlyTower", "refuseUnlessAtRest", "(LFlyTower$Bar;)V"⟩, 5), (⟨"FlyTower", "weigh", "(LFlyTower$Bar;)V"⟩, 5), (⟨"FlyTower", "refuseUnlessRunning", "()V"⟩, 5), (⟨"FlyTowerModel", "refuse", "(I)I"⟩, 4), (⟨"java/util/ArrayList", "add", "(Ljava/lang/Object;[Ljava/lang/Object;I)V"⟩, 3), (⟨"java/util/ArrayList", "grow", "()[Ljava/lang/Object;"⟩, 3), (⟨"java/util/ArrayList", "grow", "(I)[Ljava/lang/Object;"⟩, 3), (⟨"FlyTowerModel", "isCue", "(I)Z"⟩, 4), (⟨"FlyTowerModel", "isBar", "(I)Z"⟩, 4), (⟨"FlyTowerModel", "isPiece", "(I)Z"⟩, 4), (⟨"FlyTowerModel", "isLow", "(I)Z"⟩, 4), (⟨"FlyTowerModel", "weigh", "(I)V"⟩, 4), (⟨"FlyTowerModel$Tower", "act", "()I"⟩, 15), (⟨"FlyTowerModel$Tower", "go", "([I)I"⟩, 15), (⟨"FlyTowerModel$Tower", "isHeld", "(II)Z"⟩, 15)]
theorem lw_r3 : ∀ q ∈ lw_privs_3, lw_okq q := List.forall_mem_cons.mpr ⟨lw_p32, List.forall_mem_cons.mpr ⟨lw_p33, List.forall_mem_cons.mpr ⟨lw_p34, List.forall_mem_cons.mpr ⟨lw_p35, List.forall_mem_cons.mpr ⟨lw_p36, List.forall_mem_cons.mpr ⟨lw_p37, List.forall_mem_cons.mpr ⟨lw_p38, List.forall_mem_cons.mpr ⟨lw_p39, List.forall_mem_cons.mpr ⟨lw_p40, List.forall_mem_cons.mpr ⟨lw_p41, List.forall_mem_cons.mpr ⟨lw_p42, List.forall_mem_cons.mpr ⟨lw_p43, List.forall_mem_cons.mpr ⟨lw_p44, List.forall_mem_cons.mpr ⟨lw_p45, List.forall_mem_cons.mpr ⟨lw_p46, List.forall_mem_cons.mpr ⟨lw_p47, fun _ h => absurd h List.not_mem_nil⟩⟩⟩⟩⟩⟩⟩⟩⟩⟩⟩⟩⟩⟩⟩⟩
theorem lw_p48 : lw_okq (⟨"FlyTowerModel$Tower", "put", "(II)V"⟩, 15) := ⟨⟨by decide +kernel, by decide +kernel⟩, List.mem_of_getElem? (i := 789) (by decide +kernel), List.mem_of_getElem? (i := 1129) (by decide +kernel), List.mem_of_getElem? (i := 1130) (by decide +kernel)⟩
theorem lw_p49 : lw_okq (⟨"FlyTowerModel$Tower", "runAway", "(I)V"⟩, 15) := ⟨⟨by decide +kernel, by decide +kernel⟩, List.mem_of_getElem? (i := 789) (by decide +kernel), List.mem_of_getElem? (i := 1133) (by decide +kernel), List.mem_of_getElem? (i := 1134) (by decide +kernel)⟩
theorem lw_p50 : lw_okq (⟨"FlyTowerModel", "ofBarNow", "(II)I"⟩, 4) := ⟨⟨by decide +kernel, by decide +kernel⟩, List.mem_of_getElem? (i := 754) (by decide +kernel), List.mem_of_getElem? (i := 1145) (by decide +kernel), List.mem_of_getElem? (i := 1146) (by decide +kernel)⟩
theorem lw_p51 : lw_okq (⟨"FlyTowerModel", "manyNow", "(I)I"⟩, 4) := ⟨⟨by decide +kernel, by decide +kernel⟩, List.mem_of_getElem? (i := 754) (by decide +kernel), List.mem_of_getElem? (i := 1166) (by decide +kernel), List.mem_of_getElem? (i := 1167) (by decide +kernel)⟩
theorem lw_p52 : lw_okq (⟨"FlyTowerModel", "secondsNow", "(I)I"⟩, 4) := ⟨⟨by decide +kernel, by decide +kernel⟩, List.mem_of_getElem? (i := 754) (by decide +kernel), List.mem_of_getElem? (i := 1182) (by decide +kernel), List.mem_of_getElem? (i := 1183) (by decide +kernel)⟩
theorem lw_p53 : lw_okq (⟨"FlyTowerModel", "played", "(I)LFlyTowerModel$Tower;"⟩, 4) := ⟨⟨by decide +kernel, by decide +kernel⟩, List.mem_of_getElem? (i := 754) (by decide +kernel), List.mem_of_getElem? (i := 1186) (by decide +kernel), List.mem_of_getElem? (i := 1187) (by decide +kernel)⟩
theorem lw_p54 : lw_okq (⟨"FlyTowerModel", "hurtNow", "(I)I"⟩, 4) := ⟨⟨by decide +kernel, by decide +kernel⟩, List.mem_of_getElem? (i := 754) (by decide +kernel), List.mem_of_getElem? (i := 1212) (by decide +kernel), List.mem_of_getElem? (i := 1213) (by decide +kernel)⟩
theorem lw_p55 : lw_okq (⟨"FlyTowerModel", "fitsNow", "(I)I"⟩, 4) := ⟨⟨by decide +kernel, by decide +kernel⟩, List.mem_of_getElem? (i := 754) (by decide +kernel), List.mem_of_getElem? (i := 1220) (by decide +kernel), List.mem_of_getElem? (i := 1221) (by decide +kernel)⟩
theorem lw_p56 : lw_okq (⟨"FlyTowerModel", "canLie", "(I[III)Z"⟩, 4) := ⟨⟨by decide +kernel, by decide +kernel⟩, List.mem_of_getElem? (i := 754) (by decide +kernel), List.mem_of_getElem? (i := 1224) (by decide +kernel), List.mem_of_getElem? (i := 1225) (by decide +kernel)⟩
theorem lw_p57 : lw_okq (⟨"FlyTowerModel", "add", "(I)V"⟩, 4) := ⟨⟨by decide +kernel, by decide +kernel⟩, List.mem_of_getElem? (i := 754) (by decide +kernel), List.mem_of_getElem? (i := 1233) (by decide +kernel), List.mem_of_getElem? (i := 1234) (by decide +kernel)⟩
def lw_privs_4 : List (MethodName × Nat) := [(⟨"FlyTowerModel$Tower", "put", "(II)V"⟩, 15), (⟨"FlyTowerModel$Tower", "runAway", "(I)V"⟩, 15), (⟨"FlyTowerModel", "ofBarNow", "(II)I"⟩, 4), (⟨"FlyTowerModel", "manyNow", "(I)I"⟩, 4), (⟨"FlyTowerModel", "secondsNow", "(I)I"⟩, 4), (⟨"FlyTowerModel", "played", "(I)LFlyTowerModel$Tower;"⟩, 4), (⟨"FlyTowerModel", "hurtNow", "(I)I"⟩, 4), (⟨"FlyTowerModel", "fitsNow", "(I)I"⟩, 4), (⟨"FlyTowerModel", "canLie", "(I[III)Z"⟩, 4), (⟨"FlyTowerModel", "add", "(I)V"⟩, 4)]
theorem lw_r4 : ∀ q ∈ lw_privs_4, lw_okq q := List.forall_mem_cons.mpr ⟨lw_p48, List.forall_mem_cons.mpr ⟨lw_p49, List.forall_mem_cons.mpr ⟨lw_p50, List.forall_mem_cons.mpr ⟨lw_p51, List.forall_mem_cons.mpr ⟨lw_p52, List.forall_mem_cons.mpr ⟨lw_p53, List.forall_mem_cons.mpr ⟨lw_p54, List.forall_mem_cons.mpr ⟨lw_p55, List.forall_mem_cons.mpr ⟨lw_p56, List.forall_mem_cons.mpr ⟨lw_p57, fun _ h => absurd h List.not_mem_nil⟩⟩⟩⟩⟩⟩⟩⟩⟩⟩
def lw_privs : List (MethodName × Nat) := lw_privs_1 ++ (lw_privs_2 ++ (lw_privs_3 ++ (lw_privs_4)))
def lw_tbl : List Cond := k2_sels lw_privs ++ tables_1
theorem lw_privs_ok : ∀ q ∈ lw_privs, lw_okq q := by
  show ∀ q ∈ lw_privs_1 ++ (lw_privs_2 ++ (lw_privs_3 ++ (lw_privs_4))), lw_okq q
  exact List.forall_mem_append.mpr ⟨lw_r1, List.forall_mem_append.mpr ⟨lw_r2, List.forall_mem_append.mpr ⟨lw_r3, lw_r4⟩⟩⟩
/-- the streams that the claim lets the run draw from -/
abbrev lw_cs : List Choice := [Jvm.Choice.named "NaN.bits"]
theorem lw_bits : nanBits ∈ lw_cs := by first | decide | exact List.mem_cons_self | simp [lw_cs, nanBits]
-- ===== end of PART A; then your names; then what follows =====
end
section
/-! ===== BEGIN exceptions that leave a method, and their catching by the caller (launches without stack traces) ===== -/
section VXA
/-! The laws vx_back, vx_callV, vx_callS, vx_callSW, vx_throw0, vx_throwS follow proofs of the library, with one case more: JvmDerived/Free/Laws.lean (Back.of_free), Shelf42/LK1.lean (callV, callS), Shelf/KitTraced.lean (throwNew0V, throwNewS). -/
/-- where a method has thrown q: the class by its name, the cell, what was written, the world -/
def vx_T (XC : String → State → State → Prop) (st : State) (q : Addr) (t : State) (mc ms : Nat) (free : Addr → Prop) : Prop :=
  ∃ (E : String) (ce : Cell) (L : List Loc), XC E st t ∧ t.heap[q]? = some ce ∧ ce.vm = .none ∧ st.vm.findClass E = some ce.cls ∧ st.WarmedH t.vm ∧ st.sameButNew ({ t with vm := st.vm } : State) L mc ms ∧ ∀ z ∈ L, free z.base
def vx_Q (Qc : Array Value → State → Outcome → State → Prop) (XC : String → State → State → Prop) (mc ms : Nat) (free : Addr → Prop) : Array Value → State → Outcome → State → Prop := fun a st o t =>
  (Qc a st o t ∧ ∃ L, FrameEnd st o t L mc ms ∧ ∀ q ∈ L, free q.base) ∨ ∃ q, o = .threw q ∧ vx_T XC st q t mc ms free
/-- a callee that returns or throws -/
def vx_Met (l : Launch) (y : MethodName) (ws : List Cond) (rm : Room) (Pc : Array Value → State → Prop) (Qc : Array Value → State → Outcome → State → Prop) (XC : String → State → State → Prop) (mc ms : Nat) (free : Addr → Prop) : Prop :=
  MetFree l y (headSpec ws rm) Pc (fun _ _ _ _ _ => True) (vx_Q Qc XC mc ms free)
def vx_Post (XC : String → State → State → Prop) (mc ms : Nat) (free : Addr → Prop) : Pt → Array Value → Addr → Pt → Prop := fun A a q B =>
  ∃ (g : JFrame) (mk : MethodId) (t : State) (L : List Loc) (E : String) (ce : Cell), B.U.heap = t.heap ∧ B.U.vm = t.vm ∧ XC E (A.U.calling g mk a) t ∧ t.heap[q]? = some ce ∧ ce.vm = .none ∧ A.U.vm.findClass E = some ce.cls ∧ B.locs = A.locs ++ L ∧ (∀ z ∈ L, free z.base) ∧ B.cells = A.cells + mc ∧ B.slots = A.slots + ms
def vx_Back (l : Launch) (R : Room) (p : Program) (e : Env) (below : List Frame) (s : State) (sargs : Array Value) (y : MethodName) (len W9 : Nat)
    (Pre : Pt → Array Value → Prop) (Post : Pt → Array Value → Option Value → Pt → Prop) (PostX : Pt → Array Value → Addr → Pt → Prop) : Prop :=
  ∀ (m : MethodId) (meth : Method) (c : Code) (A : Pt) (g : JFrame) (ig : Instr) (mk : MethodId) (a : Array Value),
    Stand p l e R s m sargs below meth c A.U A.locs A.cells A.slots → g.method = m → g.locals.size = c.maxLocals → decode c.code g.pc = .ok (ig, len) →
    2 * g.monitorRoom + (g.stack.map fun v => v.category).sum ≤ W9 → A.U.methodNamed? y = some mk → Pre A a →
    (∃ (v : Option Value) (B : Pt), Stand p l e R s m sargs below meth c B.U B.locs B.cells B.slots ∧ Post A a v B ∧
      Steps p.tables e below (doInvoke e (A.U.setTop g) [] mk a).1 (B.U.setTop { g with pc := g.pc + len, stack := v.toList ++ g.stack })) ∨
    (∃ (q : Addr) (B : Pt), Stand p l e R s m sargs below meth c B.U B.locs B.cells B.slots ∧ PostX A a q B ∧
      Steps p.tables e below (doInvoke e (A.U.setTop g) [] mk a).1 ((B.U.setTop g).pushFrame (.throwing q)))
section Payer
variable {l : Launch} {R : Room} {p : Program} {e : Env} {below : List Frame} {s : State} {sargs : Array Value} {y : MethodName} {len W9 : Nat}
theorem vx_back {ws : List Cond} {rm : Room} {Pc : Array Value → State → Prop} {Qc : Array Value → State → Outcome → State → Prop} {XC : String → State → State → Prop} {mc ms : Nat} {free : Addr → Prop} {bytes : ByteArray} {maxL : Nat} {ret : Option FieldType}
    (hM : vx_Met l y ws rm Pc Qc XC mc ms free) (hblind : FrameBlind Pc) (hrc : rm.cells = mc) (hrs : rm.slots = ms)
    (hframes : rm.frames + 1 ≤ R.frames) (hlocals : W9 + (maxL + 11) + rm.locals ≤ R.locals)
    (hws : ∀ w ∈ ws, ∀ a' U, s.WarmedH U.vm → w.before a' U = true) (hcode : Cond.code y bytes maxL ret ∈ ws) (hinit : ∀ a' U, s.WarmedH U.vm → (Cond.initialized y.cls).before a' U = true) :
    vx_Back l R p e below s sargs y len W9 (PreOf R mc ms Pc) (PostOf Qc mc ms free) (vx_Post XC mc ms free) := by
  intro m meth c A g ig mk a X hg hsize hdg hW hn hp
  have h1 : (headSpec ws rm).pre.before a A.U = true := atoms_intro fun w hw => hws w hw _ _ X.warmed
  have h2 : (Cond.code y bytes maxL ret).before a A.U = true := hws _ hcode _ _ X.warmed
  have h3 : (Cond.initialized y.cls).before a A.U = true := hinit _ _ X.warmed
  have h4 : A.cells + (headSpec ws rm).room.cells ≤ R.cells := by rw [show (headSpec ws rm).room.cells = mc from hrc]; exact hp.1
  have h5 : A.slots + (headSpec ws rm).room.slots ≤ R.slots := by rw [show (headSpec ws rm).room.slots = ms from hrs]; exact hp.2.1
  have hPc : Pc a (A.U.calling g mk a) := hblind _ _ _ _ hp.2.2
  obtain ⟨U, Ls, c0, s0⟩ := A
  dsimp only [Pt.U, Pt.locs, Pt.cells, Pt.slots] at h1 h2 h3 h4 h5 X hn hPc ⊢
  obtain ⟨methY, cY, hmY, hcY, -, hlY, -, -, -, -⟩ := Cond.code_spec hn h2
  obtain ⟨kY, hkY, -⟩ := className_of_methodNamed hn
  have hinitY : kY.init = .initialized := Cond.initialized_spec (findClass_of_methodNamed hn) hkY h3
  have h : At U g.method c below := by rw [hg]; exact X.here
  have hlocals9 : W9 + (maxL + 11) + (headSpec ws rm).room.locals ≤ R.locals := hlocals
  have happ : (headSpec ws rm).appliesLoose y e.platform (U.calling g mk a) = true :=
    Spec.appliesLoose_calling (g := g) h hdg hn hkY hinitY
      (X.room_calling (g := g) (R' := (headSpec ws rm).room) hsize hmY hcY hframes (by rw [hlY]; omega) h4 h5) h1
  obtain ⟨mid, hmid⟩ := h.above
  have hfr : (U.setTop g).frames = (.java g :: mid) ++ below := by rw [State.frames_setTop' g h.top, hmid]; rfl
  obtain ⟨o, s₂, hsteps, -, hend, hq⟩ := Steps.callFree hM p X.admits X.cas X.clock (acts := []) hfr happ hPc trivial
  have hq' : vx_Q Qc XC mc ms free a (U.calling g mk a) o s₂ := hq
  rw [State.frames_setTop' g h.top] at hend
  obtain ⟨g₀, hg0⟩ := Option.isSome_iff_exists.mp h.top
  obtain ⟨r, hr⟩ := State.topJava?_eq_some.mp hg0
  have hr' : (({ U with heap := s₂.heap, slotsUsed := s₂.slotsUsed } : State).setVm s₂.vm).frames = .java g₀ :: r := hr
  rcases hq' with ⟨hqc, L, hfe, hL⟩ | ⟨q, rfl, E, ce, L, hx, hce, hcv, hcl, hW₂, hsm, hL⟩
  · obtain ⟨⟨v, rfl⟩, hW₂, e2, q2, q3, q4, q5, q6⟩ := id hfe
    have e3 : s₂ = ({ (U.calling g mk a).setFrames s₂.frames with heap := s₂.heap, slotsUsed := s₂.slotsUsed } : State).setVm s₂.vm := by
      have : s₂ = ({ s₂ with vm := (U.calling g mk a).vm } : State).setVm s₂.vm := rfl
      rw [e2] at this
      exact this
    obtain ⟨c₂, i₂, len₂, hc₂, hd₂, hf₂⟩ := hend
    have hW' : U.WarmedH s₂.vm := hW₂
    have hcc : c₂ = c := by
      have h1 : s₂.code? g.method = U.code? g.method := by
        rw [State.code?_eq, State.code?_eq, hW'.alike.method?]
      exact Option.some.inj (hc₂.symm.trans (h1.trans h.code))
    subst hcc
    have hlen : len₂ = len := by rw [hdg] at hd₂; cases hd₂; rfl
    subst hlen
    have hs₂ : s₂ = (({ U with heap := s₂.heap, slotsUsed := s₂.slotsUsed } : State).setVm s₂.vm).setTop { g with pc := g.pc + len₂, stack := v.toList ++ g.stack } := by
      refine e3.trans ?_
      rw [hf₂, State.calling_eq h.top, State.setFrames_setFrames, State.setTop_of_frames _ hr', hr]
      rfl
    have hsame : U.sameButNew ({ U with heap := s₂.heap, slotsUsed := s₂.slotsUsed } : State) L mc ms := by
      refine ⟨?_, q2, q3, q4, q5, q6⟩
      obtain ⟨t, ht, -⟩ := State.frames_cons hr
      show ({ U with heap := s₂.heap, slotsUsed := s₂.slotsUsed } : State) = { U.setFrames U.frames with heap := s₂.heap, slotsUsed := s₂.slotsUsed }
      rw [State.setFrames_self ht]
    subst hg
    refine Or.inl ⟨v, ⟨(({ U with heap := s₂.heap, slotsUsed := s₂.slotsUsed } : State).setVm s₂.vm), Ls ++ L, c0 + mc, s0 + ms⟩,
      ⟨X.admits, X.cas, X.clock, X.frames, X.room, X.hears, X.method, X.code, (X.here.setHeapUsed s₂.heap s₂.slotsUsed).setVm hW'.alike, X.tail, State.WarmedH.trans X.warmed hW', X.limits, X.bytes, X.same.trans (hsame.setVm s.vm)⟩,
      ⟨g, mk, s₂, L, rfl, rfl, hqc, rfl, hL, rfl, rfl⟩, ?_⟩
    show Steps p.tables e below _ ((({ U with heap := s₂.heap, slotsUsed := s₂.slotsUsed } : State).setVm s₂.vm).setTop { g with pc := g.pc + len₂, stack := v.toList ++ g.stack })
    rw [← hs₂]
    exact hsteps
  · obtain ⟨e2, q2, q3, q4, q5, q6⟩ := id hsm
    have e3 : s₂ = ({ (U.calling g mk a).setFrames s₂.frames with heap := s₂.heap, slotsUsed := s₂.slotsUsed } : State).setVm s₂.vm := by
      have : s₂ = ({ s₂ with vm := (U.calling g mk a).vm } : State).setVm s₂.vm := rfl
      rw [e2] at this
      exact this
    have hf₂ : s₂.frames = .throwing q :: .java g :: U.frames.tail := hend
    have hW' : U.WarmedH s₂.vm := hW₂
    have hs₂ : s₂ = ((({ U with heap := s₂.heap, slotsUsed := s₂.slotsUsed } : State).setVm s₂.vm).setTop g).pushFrame (.throwing q) := by
      refine e3.trans ?_
      rw [hf₂, State.calling_eq h.top, State.setFrames_setFrames, State.pushFrame, State.frames_setTop _ hr', State.setTop_of_frames _ hr', State.setFrames_setFrames, hr]
      rfl
    have hsame : U.sameButNew ({ U with heap := s₂.heap, slotsUsed := s₂.slotsUsed } : State) L mc ms := by
      refine ⟨?_, q2, q3, q4, q5, q6⟩
      obtain ⟨t, ht, -⟩ := State.frames_cons hr
      show ({ U with heap := s₂.heap, slotsUsed := s₂.slotsUsed } : State) = { U.setFrames U.frames with heap := s₂.heap, slotsUsed := s₂.slotsUsed }
      rw [State.setFrames_self ht]
    subst hg
    refine Or.inr ⟨q, ⟨(({ U with heap := s₂.heap, slotsUsed := s₂.slotsUsed } : State).setVm s₂.vm), Ls ++ L, c0 + mc, s0 + ms⟩,
      ⟨X.admits, X.cas, X.clock, X.frames, X.room, X.hears, X.method, X.code, (X.here.setHeapUsed s₂.heap s₂.slotsUsed).setVm hW'.alike, X.tail, State.WarmedH.trans X.warmed hW', X.limits, X.bytes, X.same.trans (hsame.setVm s.vm)⟩,
      ⟨g, mk, s₂, L, E, ce, rfl, rfl, hx, hce, hcv, hcl, rfl, hL, rfl, rfl⟩, ?_⟩
    show Steps p.tables e below _ (((({ U with heap := s₂.heap, slotsUsed := s₂.slotsUsed } : State).setVm s₂.vm).setTop g).pushFrame (.throwing q))
    rw [← hs₂]
    exact hsteps
end Payer
section Calls
variable {p : Program} {l : Launch} {e : Env} {R : Room} {s : State} {m : MethodId} {args : Array Value} {below : List Frame} {meth : Method} {c : Code} {T : State} {locs : List Loc} {cells slots : Nat}
theorem vx_callV (X : Stand p l e R s m args below meth c T locs cells slots) (hexec : p.tables.exec = Jvm.exec) {own C : String} {index : Nat} {y : MethodName} {bytes : ByteArray} {maxL : Nat} {ret : Option FieldType}
    (hown : s.vm.findClass own = some m.cls) (hlink : (Cond.methodLink own index y).before args s = true) (hinst : (Cond.instanceMethod y).before args s = true) (hsel : (Cond.selects C y y).before args s = true)
    (hcode : (Cond.code y bytes maxL ret).before args s = true) (hy : y.cls ≠ "java/lang/invoke/MethodHandle" ∧ y.cls ≠ "java/lang/invoke/VarHandle")
    {W9 : Nat} {Pre : Pt → Array Value → Prop} {Post : Pt → Array Value → Option Value → Pt → Prop} {PostX : Pt → Array Value → Addr → Pt → Prop} (hK : vx_Back l R p e below s args y 3 W9 Pre Post PostX)
    {b : Addr} {cellB : Cell} (hcell : T.heap[b]? = some cellB) (hobj : cellB.vm.isStatics = false) (hcls : s.vm.findClass C = some cellB.cls)
    {g : JFrame} (hg : g.method = m) (hsize : g.locals.size = c.maxLocals) {argsL rest : List Value} (hlen : ∀ sig, parseMethodDescriptor y.desc = some sig → argsL.length = sig.parameters.length)
    (hstack : g.stack = argsL.reverse ++ .ref b :: rest) (hW : 2 * g.monitorRoom + (rest.map fun v => v.category).sum ≤ W9) (hdg : decode c.code g.pc = .ok (.invokevirtual index, 3))
    (hpre : ∀ vm₁, s.WarmedH vm₁ → Pre ⟨T.setVm vm₁, locs, cells, slots⟩ (Value.ref b :: argsL).toArray) :
    (∃ (v : Option Value) (vm₁ : Vm) (B : Pt), s.WarmedH vm₁ ∧ Stand p l e R s m args below meth c B.U B.locs B.cells B.slots ∧ Post ⟨T.setVm vm₁, locs, cells, slots⟩ (Value.ref b :: argsL).toArray v B ∧
      ∀ target, Steps p.tables e below (B.U.setTop { g with pc := g.pc + 3, stack := v.toList ++ rest }) target → Steps p.tables e below (T.setTop g) target) ∨
    (∃ (q : Addr) (vm₁ : Vm) (B : Pt), s.WarmedH vm₁ ∧ Stand p l e R s m args below meth c B.U B.locs B.cells B.slots ∧ PostX ⟨T.setVm vm₁, locs, cells, slots⟩ (Value.ref b :: argsL).toArray q B ∧
      Steps p.tables e below (T.setTop g) ((B.U.setTop { g with stack := rest }).pushFrame (.throwing q))) := by
  obtain ⟨mk, methM, hnamed, hmethM, hstM, habM⟩ := Cond.instanceMethod_spec hinst
  obtain ⟨methM', cM, hmethM', -, -, -, -, -, -, hsigM⟩ := Cond.code_spec hnamed hcode
  cases hmethM.symm.trans hmethM'
  obtain ⟨c2, r2, m2, q1, q2, q3, q4, kP, hkP, hkPi⟩ := Cond.selects_spec hsel
  cases hcls.symm.trans q1
  cases (State.methodFound?_of_named hnamed hy).symm.trans q2
  cases hnamed.symm.trans q3
  have hselP : selectMethod e.platform s.vm cellB.cls mk = .method mk := by rw [Launch.admits_selectMethod X.admits]; exact q4
  obtain ⟨vm₁, X₁, hstep₁⟩ := X.invokevirtual hexec hown hlink hnamed hmethM hstM hkP hkPi hy (a := b) (cell := cellB) hcell
    (fun z h => by rw [h] at hobj; cases hobj) hselP hmethM habM hkP hkPi (g := g) hg (argsL := argsL) (rest := rest) (hlen _ hsigM) hstack hdg
  rcases hK m meth c ⟨T.setVm vm₁, locs, cells, slots⟩ { g with stack := rest } (.invokevirtual index) mk (Value.ref b :: argsL).toArray X₁ hg hsize hdg hW (X₁.named hnamed) (hpre vm₁ X₁.warmed) with ⟨v, B, X', hpost, hsteps⟩ | ⟨q, B, X', hpost, hsteps⟩
  · exact Or.inl ⟨v, vm₁, B, X₁.warmed, X', hpost, fun target h => hstep₁ _ fun acts => by rw [doInvoke_state]; exact hsteps.trans h⟩
  · exact Or.inr ⟨q, vm₁, B, X₁.warmed, X', hpost, hstep₁ _ fun acts => by rw [doInvoke_state]; exact hsteps⟩
theorem vx_callS (X : Stand p l e R s m args below meth c T locs cells slots) (hexec : p.tables.exec = Jvm.exec) {own : String} {index : Nat} {y : MethodName} {bytes : ByteArray} {maxL : Nat} {ret : Option FieldType}
    (hown : s.vm.findClass own = some m.cls) (hlink : (Cond.methodLink own index y).before args s = true) (hstat : (Cond.static y).before args s = true) (hinit : (Cond.initialized y.cls).before args s = true)
    (hcode : (Cond.code y bytes maxL ret).before args s = true) (hy : y.cls ≠ "java/lang/invoke/MethodHandle" ∧ y.cls ≠ "java/lang/invoke/VarHandle")
    {W9 : Nat} {Pre : Pt → Array Value → Prop} {Post : Pt → Array Value → Option Value → Pt → Prop} {PostX : Pt → Array Value → Addr → Pt → Prop} (hK : vx_Back l R p e below s args y 3 W9 Pre Post PostX)
    {g : JFrame} (hg : g.method = m) (hsize : g.locals.size = c.maxLocals) {argsL rest : List Value} (hlen : ∀ sig, parseMethodDescriptor y.desc = some sig → argsL.length = sig.parameters.length)
    (hstack : g.stack = argsL.reverse ++ rest) (hW : 2 * g.monitorRoom + (rest.map fun v => v.category).sum ≤ W9) (hdg : decode c.code g.pc = .ok (.invokestatic index, 3))
    (hpre : ∀ vm₁, s.WarmedH vm₁ → Pre ⟨T.setVm vm₁, locs, cells, slots⟩ argsL.toArray) :
    (∃ (v : Option Value) (vm₁ : Vm) (B : Pt), s.WarmedH vm₁ ∧ Stand p l e R s m args below meth c B.U B.locs B.cells B.slots ∧ Post ⟨T.setVm vm₁, locs, cells, slots⟩ argsL.toArray v B ∧
      ∀ target, Steps p.tables e below (B.U.setTop { g with pc := g.pc + 3, stack := v.toList ++ rest }) target → Steps p.tables e below (T.setTop g) target) ∨
    (∃ (q : Addr) (vm₁ : Vm) (B : Pt), s.WarmedH vm₁ ∧ Stand p l e R s m args below meth c B.U B.locs B.cells B.slots ∧ PostX ⟨T.setVm vm₁, locs, cells, slots⟩ argsL.toArray q B ∧
      Steps p.tables e below (T.setTop g) ((B.U.setTop { g with stack := rest }).pushFrame (.throwing q))) := by
  obtain ⟨mk, hnamed⟩ := Cond.code_named hcode
  obtain ⟨methM, cM, hmethM, -, -, -, -, -, -, hsigM⟩ := Cond.code_spec hnamed hcode
  have hstatic : methM.isStatic = true := Cond.static_spec hnamed hmethM hstat
  obtain ⟨kP, hkP, -⟩ := className_of_methodNamed hnamed
  have hinitP : kP.init = .initialized := Cond.initialized_spec (findClass_of_methodNamed hnamed) hkP hinit
  obtain ⟨vm₁, X₁, hstep₁⟩ := X.invokestatic hexec hown hlink hnamed hmethM hstatic hkP hinitP hy (g := g) hg (argsL := argsL) (rest := rest) (hlen _ hsigM) hstack hdg
  rcases hK m meth c ⟨T.setVm vm₁, locs, cells, slots⟩ { g with stack := rest } (.invokestatic index) mk argsL.toArray X₁ hg hsize hdg hW (X₁.named hnamed) (hpre vm₁ X₁.warmed) with ⟨v, B, X', hpost, hsteps⟩ | ⟨q, B, X', hpost, hsteps⟩
  · exact Or.inl ⟨v, vm₁, B, X₁.warmed, X', hpost, fun target h => hstep₁ _ fun acts => by rw [doInvoke_state]; exact hsteps.trans h⟩
  · exact Or.inr ⟨q, vm₁, B, X₁.warmed, X', hpost, hstep₁ _ fun acts => by rw [doInvoke_state]; exact hsteps⟩
end Calls
theorem vx_cls {s : State} {T : State} {vm₁ : Vm} {E : String} {k : ClassId} (hW : s.WarmedH vm₁) (h : (T.setVm vm₁).vm.findClass E = some k) : s.vm.findClass E = some k := by
  have h1 : vm₁.findClass E = some k := h
  rw [hW.alike.findClass] at h1
  exact h1
/-- the method's frame g, with q thrown over it -/
def vx_W (p : Program) (l : Launch) (e : Env) (R : Room) (s : State) (m : MethodId) (args : Array Value) (below : List Frame) (meth : Method) (c : Code) (H : Heap) (locs : List Loc) (cells slots : Nat) (Q : State → Prop) (g : JFrame) (q : Addr) : Prop :=
  ∀ T : State, T.heap = H → Stand p l e R s m args below meth c T locs cells slots → ∃ t, Steps p.tables e below ((T.setTop g).pushFrame (.throwing q)) t ∧ Q t
def vx_Run (p : Program) (l : Launch) (e : Env) (R : Room) (s : State) (m : MethodId) (args : Array Value) (below : List Frame) (meth : Method) (c : Code) (H : Heap) (locs : List Loc) (cells slots mc ms : Nat) (g : JFrame) (rest : List Value) (Qa : State → Outcome → State → Prop) (XC : String → State → State → Prop) (free : Addr → Prop) : Prop :=
  ∀ T : State, T.heap = H → Stand p l e R s m args below meth c T locs cells slots →
    (∃ (v : Option Value) (st₀ t T' : State) (L : List Loc), st₀.heap = H ∧ Stand p l e R s m args below meth c T' (locs ++ L) (cells + mc) (slots + ms) ∧ (∀ q ∈ L, free q.base) ∧ T'.heap = t.heap ∧ T'.vm = t.vm ∧ Qa st₀ (.returned v) t ∧
      Goes p e below T g T' { g with pc := g.pc + 3, stack := v.toList ++ rest }) ∨
    (∃ (q : Addr) (st₀ t T' : State) (L : List Loc) (E : String) (ce : Cell), st₀.heap = H ∧ Stand p l e R s m args below meth c T' (locs ++ L) (cells + mc) (slots + ms) ∧ (∀ z ∈ L, free z.base) ∧ T'.heap = t.heap ∧ T'.vm = t.vm ∧ XC E st₀ t ∧ t.heap[q]? = some ce ∧ ce.vm = .none ∧ s.vm.findClass E = some ce.cls ∧
      Steps p.tables e below (T.setTop g) ((T'.setTop { g with stack := rest }).pushFrame (.throwing q)))
def vx_X {S : Type} (px : S → Prop) (B : String → S → State → Prop) (A : Nat → Prop) : String → State → State → Prop := fun E st t => ∃ u : S, px u ∧ B E u t ∧ va_F A st t
section Runs
variable {p : Program} {l : Launch} {e : Env} {R : Room} {s : State} {m : MethodId} {args : Array Value} {below : List Frame} {meth : Method} {c : Code} {H : Heap} {locs : List Loc} {cells slots : Nat}
variable {y : MethodName} {bytes cc : ByteArray} {maxL nL mc ms n index : Nat} {ret : Option FieldType} {ws : List Cond} {rm : Room} {Pc : Array Value → State → Prop} {Qc : Array Value → State → Outcome → State → Prop} {XC : String → State → State → Prop} {free : Addr → Prop} {Ts : List Cond} {own C : String} {b : Addr} {As rest : List Value} {g : JFrame}
theorem vx_callBack (cb : CallB R s args own index y bytes maxL ret ws rm mc ms n) (hM : vx_Met l y ws rm Pc Qc XC mc ms free) (hbl : FrameBlind Pc) : vx_Back l R p e below s args y 3 8 (PreOf R mc ms Pc) (PostOf Qc mc ms free) (vx_Post XC mc ms free) := by
  obtain ⟨hrc, hrs, hfr, hlo, hws, hcw, -, hini, -⟩ := cb
  exact vx_back (bytes := bytes) (maxL := maxL) (ret := ret) hM hbl hrc hrs hfr hlo hws hcw (fun a' U hW => word_at hW (Or.inl (by first | rfl | simp [Cond.onTables, Cond.keeps, Cond.steady])) hini)
theorem vx_runV (S : CallFix p m c cc nL s args Ts own) (hM : vx_Met l y ws rm Pc Qc XC mc ms free) (cw : CallW R s args own C index y bytes maxL ret ws rm mc ms n) (hp : PreV s H C b Pc As)
    (hg : g.method = m) (hn : As.length = n) (hsize : g.locals.size = nL) (hstack : g.stack = As.reverse ++ .ref b :: rest) (hW : 2 * g.monitorRoom + (rest.map fun v => v.category).sum ≤ 8) (hdg : decode cc g.pc = .ok (.invokevirtual index, 3)) (hf : cells + mc ≤ R.cells ∧ slots + ms ≤ R.slots) :
    vx_Run p l e R s m args below meth c H locs cells slots mc ms g rest (Qc (Value.ref b :: As).toArray) XC free := by
  have hK : vx_Back l R p e below s args y 3 8 (PreOf R mc ms Pc) (PostOf Qc mc ms free) (vx_Post XC mc ms free) := vx_callBack cw.1 hM hp.1
  obtain ⟨⟨-, -, -, -, -, -, hcode, -, hy, hlen, hl⟩, hin, hse⟩ := cw
  obtain ⟨hx, hb, hml, ho, -⟩ := S
  obtain ⟨-, ⟨cellB, hcB, hoB, hclB⟩, hPc⟩ := hp
  intro T hT X
  rcases vx_callV X hx (C := C) (bytes := bytes) (maxL := maxL) (ret := ret) ho hl hin hse hcode hy hK (by rw [hT]; exact hcB) hoB hclB hg (hsize.trans hml.symm) (argsL := As) (rest := rest) (fun sig h => hn.trans (hlen sig h)) hstack hW (by rw [hb]; exact hdg)
    (fun vm₁ hW₁ => ⟨hf.1, hf.2, hPc (T.setVm vm₁) hT hW₁⟩) with ⟨v, vm₁, ⟨U', l2, c2, s2⟩, hW₁, X', ⟨g', mk, t, L, e1, e2, hq, h1, hL, h2, h3⟩, st⟩ | ⟨q, vm₁, ⟨U', l2, c2, s2⟩, hW₁, X', ⟨g', mk, t, L, E, ce, e1, e2, hq, hce, hcv, hcl, h1, hL, h2, h3⟩, st⟩
  · dsimp only [Pt.U, Pt.locs, Pt.cells, Pt.slots] at X' e1 e2 h1 h2 h3 st
    subst h1; subst h2; subst h3
    exact Or.inl ⟨v, (T.setVm vm₁).calling g' mk (Value.ref b :: As).toArray, t, U', L, hT, X', hL, e1, e2, hq, st⟩
  · dsimp only [Pt.U, Pt.locs, Pt.cells, Pt.slots] at X' e1 e2 h1 h2 h3 st hcl
    subst h1; subst h2; subst h3
    exact Or.inr ⟨q, (T.setVm vm₁).calling g' mk (Value.ref b :: As).toArray, t, U', L, E, ce, hT, X', hL, e1, e2, hq, hce, hcv, vx_cls hW₁ hcl, st⟩
theorem vx_runS (S : CallFix p m c cc nL s args Ts own) (hM : vx_Met l y ws rm Pc Qc XC mc ms free) (cw : CallB R s args own index y bytes maxL ret ws rm mc ms n ∧ (Cond.static y).before args s = true) (hp : PreS s H Pc As)
    (hg : g.method = m) (hn : As.length = n) (hsize : g.locals.size = nL) (hstack : g.stack = As.reverse ++ rest) (hW : 2 * g.monitorRoom + (rest.map fun v => v.category).sum ≤ 8) (hdg : decode cc g.pc = .ok (.invokestatic index, 3)) (hf : cells + mc ≤ R.cells ∧ slots + ms ≤ R.slots) :
    vx_Run p l e R s m args below meth c H locs cells slots mc ms g rest (Qc As.toArray) XC free := by
  have hK : vx_Back l R p e below s args y 3 8 (PreOf R mc ms Pc) (PostOf Qc mc ms free) (vx_Post XC mc ms free) := vx_callBack cw.1 hM hp.1
  obtain ⟨⟨-, -, -, -, -, -, hcode, hini, hy, hlen, hl⟩, hstt⟩ := cw
  obtain ⟨hx, hb, hml, ho, -⟩ := S
  intro T hT X
  rcases vx_callS X hx (bytes := bytes) (maxL := maxL) (ret := ret) ho hl hstt hini hcode hy hK hg (hsize.trans hml.symm) (argsL := As) (rest := rest) (fun sig h => hn.trans (hlen sig h)) hstack hW (by rw [hb]; exact hdg)
    (fun vm₁ hW₁ => ⟨hf.1, hf.2, hp.2 (T.setVm vm₁) hT hW₁⟩) with ⟨v, vm₁, ⟨U', l2, c2, s2⟩, hW₁, X', ⟨g', mk, t, L, e1, e2, hq, h1, hL, h2, h3⟩, st⟩ | ⟨q, vm₁, ⟨U', l2, c2, s2⟩, hW₁, X', ⟨g', mk, t, L, E, ce, e1, e2, hq, hce, hcv, hcl, h1, hL, h2, h3⟩, st⟩
  · dsimp only [Pt.U, Pt.locs, Pt.cells, Pt.slots] at X' e1 e2 h1 h2 h3 st
    subst h1; subst h2; subst h3
    exact Or.inl ⟨v, (T.setVm vm₁).calling g' mk As.toArray, t, U', L, hT, X', hL, e1, e2, hq, st⟩
  · dsimp only [Pt.U, Pt.locs, Pt.cells, Pt.slots] at X' e1 e2 h1 h2 h3 st hcl
    subst h1; subst h2; subst h3
    exact Or.inr ⟨q, (T.setVm vm₁).calling g' mk As.toArray, t, U', L, E, ce, hT, X', hL, e1, e2, hq, hce, hcv, vx_cls hW₁ hcl, st⟩
end Runs
section Rows
variable {p : Program} {l : Launch} {e : Env} {R : Room} {s : State} {m : MethodId} {args : Array Value} {below : List Frame} {meth : Method} {c : Code} {H : Heap} {locs : List Loc} {cells slots : Nat} {Q : State → Prop}
variable {mc ms : Nat} {free : Addr → Prop} {A0 A1 : Nat → Prop} {H0 : Heap} {a : Array Value} {pc : Nat} {ls : Array Slot} {st0 rest : List Value}
theorem vx_keep {st₀ t T' : State} {L : List Loc} (h0 : st₀.heap = H) (e1 : T'.heap = t.heap) (hS : va_S A0 H0 H locs) (hA : ∀ q, q < H.size → A1 q → A0 q) (hf : ∀ q, free q → A0 q) (hL : ∀ q ∈ L, free q.base) (hF : va_F A1 st₀ t) :
    H.size ≤ T'.heap.size ∧ (∀ q : Nat, q < H.size → ¬ A1 q → T'.heap[q]? = H[q]?) ∧ va_S A0 H0 T'.heap (locs ++ L) := by
  obtain ⟨hz, hk⟩ := hF
  rw [h0] at hz hk
  exact ⟨by rw [e1]; exact hz, fun q h1 h2 => by rw [e1]; exact hk q h1 h2,
    ⟨Nat.le_trans hS.1 (by rw [e1]; exact hz), fun q h1 h2 => by rw [e1, hk q (Nat.lt_of_lt_of_le h1 hS.1) (fun z => h2 (hA q (Nat.lt_of_lt_of_le h1 hS.1) z))]; exact hS.2.1 q h1 h2, fun q hq => by
      rcases List.mem_append.mp hq with h | h
      · exact hS.2.2 q h
      · exact hf _ (hL q h)⟩⟩
theorem vx_calli {S SX : Type} {post : Int32 → S → Prop} {px : SX → Prop} {B : S → State → Prop} {BX : String → SX → State → Prop} {AX : Nat → Prop} (hr : vx_Run p l e R s m args below meth c H locs cells slots mc ms (F0 m pc ls st0) rest (va_Qi post B A1 a) (vx_X px BX AX) free) (hS : va_S A0 H0 H locs) (hA : ∀ q, q < H.size → A1 q → A0 q) (hf : ∀ q, free q → A0 q) (hAX : ∀ q, q < H.size → AX q → A0 q)
    (kx : ∀ (E : String) (ce : Cell) (q9 : Addr) (u : SX) (t : State) (H1 : Heap) (locs1 : List Loc), t.heap = H1 → s.vm.Alike t.vm → px u → BX E u t → H.size ≤ H1.size → (∀ q : Nat, q < H.size → ¬ AX q → H1[q]? = H[q]?) → va_S A0 H0 H1 locs1 → H1[q9]? = some ce → ce.vm = .none → s.vm.findClass E = some ce.cls → vx_W p l e R s m args below meth c H1 locs1 (cells + mc) (slots + ms) Q (F0 m pc ls rest) q9)
    (kk : ∀ (r : Int32) (u : S) (t : State) (H1 : Heap) (locs1 : List Loc), t.heap = H1 → s.vm.Alike t.vm → post r u → B u t → H.size ≤ H1.size → (∀ q : Nat, q < H.size → ¬ A1 q → H1[q]? = H[q]?) → va_S A0 H0 H1 locs1 → W p l e R s m args below meth c H1 locs1 (cells + mc) (slots + ms) Q (F0 m (pc + 3) ls (.int r :: rest))) : W p l e R s m args below meth c H locs cells slots Q (F0 m pc ls st0) := by
  intro T hT X
  rcases hr T hT X with ⟨v, st₀, t, T', L, h0, X', hL, e1, e2, ⟨⟨r, u, hv, hp, hb⟩, hF⟩, st⟩ | ⟨q, st₀, t, T', L, E, ce, h0, X', hL, e1, e2, ⟨u, hp, hb, hF⟩, hce, hcv, hcl, st⟩
  · cases hv
    obtain ⟨k1, k2, k3⟩ := vx_keep h0 e1 hS hA hf hL hF
    obtain ⟨t2, a1, b1⟩ := kk r u t T'.heap (locs ++ L) e1.symm (by rw [← e2]; exact X'.warmed.alike) hp hb k1 k2 k3 T' rfl X'
    exact ⟨t2, st t2 a1, b1⟩
  · obtain ⟨k1, k2, k3⟩ := vx_keep h0 e1 hS hAX hf hL hF
    obtain ⟨t2, a1, b1⟩ := kx E ce q u t T'.heap (locs ++ L) e1.symm (by rw [← e2]; exact X'.warmed.alike) hp hb k1 k2 k3 (by rw [e1]; exact hce) hcv hcl T' rfl X'
    exact ⟨t2, st.trans a1, b1⟩
theorem vx_calll {S SX : Type} {post : Int64 → S → Prop} {px : SX → Prop} {B : S → State → Prop} {BX : String → SX → State → Prop} {AX : Nat → Prop} (hr : vx_Run p l e R s m args below meth c H locs cells slots mc ms (F0 m pc ls st0) rest (va_Ql post B A1 a) (vx_X px BX AX) free) (hS : va_S A0 H0 H locs) (hA : ∀ q, q < H.size → A1 q → A0 q) (hf : ∀ q, free q → A0 q) (hAX : ∀ q, q < H.size → AX q → A0 q)
    (kx : ∀ (E : String) (ce : Cell) (q9 : Addr) (u : SX) (t : State) (H1 : Heap) (locs1 : List Loc), t.heap = H1 → s.vm.Alike t.vm → px u → BX E u t → H.size ≤ H1.size → (∀ q : Nat, q < H.size → ¬ AX q → H1[q]? = H[q]?) → va_S A0 H0 H1 locs1 → H1[q9]? = some ce → ce.vm = .none → s.vm.findClass E = some ce.cls → vx_W p l e R s m args below meth c H1 locs1 (cells + mc) (slots + ms) Q (F0 m pc ls rest) q9)
    (kk : ∀ (r : Int64) (u : S) (t : State) (H1 : Heap) (locs1 : List Loc), t.heap = H1 → s.vm.Alike t.vm → post r u → B u t → H.size ≤ H1.size → (∀ q : Nat, q < H.size → ¬ A1 q → H1[q]? = H[q]?) → va_S A0 H0 H1 locs1 → W p l e R s m args below meth c H1 locs1 (cells + mc) (slots + ms) Q (F0 m (pc + 3) ls (.long r :: rest))) : W p l e R s m args below meth c H locs cells slots Q (F0 m pc ls st0) := by
  intro T hT X
  rcases hr T hT X with ⟨v, st₀, t, T', L, h0, X', hL, e1, e2, ⟨⟨r, u, hv, hp, hb⟩, hF⟩, st⟩ | ⟨q, st₀, t, T', L, E, ce, h0, X', hL, e1, e2, ⟨u, hp, hb, hF⟩, hce, hcv, hcl, st⟩
  · cases hv
    obtain ⟨k1, k2, k3⟩ := vx_keep h0 e1 hS hA hf hL hF
    obtain ⟨t2, a1, b1⟩ := kk r u t T'.heap (locs ++ L) e1.symm (by rw [← e2]; exact X'.warmed.alike) hp hb k1 k2 k3 T' rfl X'
    exact ⟨t2, st t2 a1, b1⟩
  · obtain ⟨k1, k2, k3⟩ := vx_keep h0 e1 hS hAX hf hL hF
    obtain ⟨t2, a1, b1⟩ := kx E ce q u t T'.heap (locs ++ L) e1.symm (by rw [← e2]; exact X'.warmed.alike) hp hb k1 k2 k3 (by rw [e1]; exact hce) hcv hcl T' rfl X'
    exact ⟨t2, st.trans a1, b1⟩
theorem vx_callf {S SX : Type} {post : UInt32 → S → Prop} {px : SX → Prop} {B : S → State → Prop} {BX : String → SX → State → Prop} {AX : Nat → Prop} (hr : vx_Run p l e R s m args below meth c H locs cells slots mc ms (F0 m pc ls st0) rest (va_Qf post B A1 a) (vx_X px BX AX) free) (hS : va_S A0 H0 H locs) (hA : ∀ q, q < H.size → A1 q → A0 q) (hf : ∀ q, free q → A0 q) (hAX : ∀ q, q < H.size → AX q → A0 q)
    (kx : ∀ (E : String) (ce : Cell) (q9 : Addr) (u : SX) (t : State) (H1 : Heap) (locs1 : List Loc), t.heap = H1 → s.vm.Alike t.vm → px u → BX E u t → H.size ≤ H1.size → (∀ q : Nat, q < H.size → ¬ AX q → H1[q]? = H[q]?) → va_S A0 H0 H1 locs1 → H1[q9]? = some ce → ce.vm = .none → s.vm.findClass E = some ce.cls → vx_W p l e R s m args below meth c H1 locs1 (cells + mc) (slots + ms) Q (F0 m pc ls rest) q9)
    (kk : ∀ (r : UInt32) (u : S) (t : State) (H1 : Heap) (locs1 : List Loc), t.heap = H1 → s.vm.Alike t.vm → post r u → B u t → H.size ≤ H1.size → (∀ q : Nat, q < H.size → ¬ A1 q → H1[q]? = H[q]?) → va_S A0 H0 H1 locs1 → W p l e R s m args below meth c H1 locs1 (cells + mc) (slots + ms) Q (F0 m (pc + 3) ls (.float r :: rest))) : W p l e R s m args below meth c H locs cells slots Q (F0 m pc ls st0) := by
  intro T hT X
  rcases hr T hT X with ⟨v, st₀, t, T', L, h0, X', hL, e1, e2, ⟨⟨r, u, hv, hp, hb⟩, hF⟩, st⟩ | ⟨q, st₀, t, T', L, E, ce, h0, X', hL, e1, e2, ⟨u, hp, hb, hF⟩, hce, hcv, hcl, st⟩
  · cases hv
    obtain ⟨k1, k2, k3⟩ := vx_keep h0 e1 hS hA hf hL hF
    obtain ⟨t2, a1, b1⟩ := kk r u t T'.heap (locs ++ L) e1.symm (by rw [← e2]; exact X'.warmed.alike) hp hb k1 k2 k3 T' rfl X'
    exact ⟨t2, st t2 a1, b1⟩
  · obtain ⟨k1, k2, k3⟩ := vx_keep h0 e1 hS hAX hf hL hF
    obtain ⟨t2, a1, b1⟩ := kx E ce q u t T'.heap (locs ++ L) e1.symm (by rw [← e2]; exact X'.warmed.alike) hp hb k1 k2 k3 (by rw [e1]; exact hce) hcv hcl T' rfl X'
    exact ⟨t2, st.trans a1, b1⟩
theorem vx_calld {S SX : Type} {post : UInt64 → S → Prop} {px : SX → Prop} {B : S → State → Prop} {BX : String → SX → State → Prop} {AX : Nat → Prop} (hr : vx_Run p l e R s m args below meth c H locs cells slots mc ms (F0 m pc ls st0) rest (va_Qd post B A1 a) (vx_X px BX AX) free) (hS : va_S A0 H0 H locs) (hA : ∀ q, q < H.size → A1 q → A0 q) (hf : ∀ q, free q → A0 q) (hAX : ∀ q, q < H.size → AX q → A0 q)
    (kx : ∀ (E : String) (ce : Cell) (q9 : Addr) (u : SX) (t : State) (H1 : Heap) (locs1 : List Loc), t.heap = H1 → s.vm.Alike t.vm → px u → BX E u t → H.size ≤ H1.size → (∀ q : Nat, q < H.size → ¬ AX q → H1[q]? = H[q]?) → va_S A0 H0 H1 locs1 → H1[q9]? = some ce → ce.vm = .none → s.vm.findClass E = some ce.cls → vx_W p l e R s m args below meth c H1 locs1 (cells + mc) (slots + ms) Q (F0 m pc ls rest) q9)
    (kk : ∀ (r : UInt64) (u : S) (t : State) (H1 : Heap) (locs1 : List Loc), t.heap = H1 → s.vm.Alike t.vm → post r u → B u t → H.size ≤ H1.size → (∀ q : Nat, q < H.size → ¬ A1 q → H1[q]? = H[q]?) → va_S A0 H0 H1 locs1 → W p l e R s m args below meth c H1 locs1 (cells + mc) (slots + ms) Q (F0 m (pc + 3) ls (.double r :: rest))) : W p l e R s m args below meth c H locs cells slots Q (F0 m pc ls st0) := by
  intro T hT X
  rcases hr T hT X with ⟨v, st₀, t, T', L, h0, X', hL, e1, e2, ⟨⟨r, u, hv, hp, hb⟩, hF⟩, st⟩ | ⟨q, st₀, t, T', L, E, ce, h0, X', hL, e1, e2, ⟨u, hp, hb, hF⟩, hce, hcv, hcl, st⟩
  · cases hv
    obtain ⟨k1, k2, k3⟩ := vx_keep h0 e1 hS hA hf hL hF
    obtain ⟨t2, a1, b1⟩ := kk r u t T'.heap (locs ++ L) e1.symm (by rw [← e2]; exact X'.warmed.alike) hp hb k1 k2 k3 T' rfl X'
    exact ⟨t2, st t2 a1, b1⟩
  · obtain ⟨k1, k2, k3⟩ := vx_keep h0 e1 hS hAX hf hL hF
    obtain ⟨t2, a1, b1⟩ := kx E ce q u t T'.heap (locs ++ L) e1.symm (by rw [← e2]; exact X'.warmed.alike) hp hb k1 k2 k3 (by rw [e1]; exact hce) hcv hcl T' rfl X'
    exact ⟨t2, st.trans a1, b1⟩
theorem vx_callv {S SX : Type} {post : S → Prop} {px : SX → Prop} {B : S → State → Prop} {BX : String → SX → State → Prop} {AX : Nat → Prop} (hr : vx_Run p l e R s m args below meth c H locs cells slots mc ms (F0 m pc ls st0) rest (va_Qv post B A1 a) (vx_X px BX AX) free) (hS : va_S A0 H0 H locs) (hA : ∀ q, q < H.size → A1 q → A0 q) (hf : ∀ q, free q → A0 q) (hAX : ∀ q, q < H.size → AX q → A0 q)
    (kx : ∀ (E : String) (ce : Cell) (q9 : Addr) (u : SX) (t : State) (H1 : Heap) (locs1 : List Loc), t.heap = H1 → s.vm.Alike t.vm → px u → BX E u t → H.size ≤ H1.size → (∀ q : Nat, q < H.size → ¬ AX q → H1[q]? = H[q]?) → va_S A0 H0 H1 locs1 → H1[q9]? = some ce → ce.vm = .none → s.vm.findClass E = some ce.cls → vx_W p l e R s m args below meth c H1 locs1 (cells + mc) (slots + ms) Q (F0 m pc ls rest) q9)
    (kk : ∀ (u : S) (t : State) (H1 : Heap) (locs1 : List Loc), t.heap = H1 → s.vm.Alike t.vm → post u → B u t → H.size ≤ H1.size → (∀ q : Nat, q < H.size → ¬ A1 q → H1[q]? = H[q]?) → va_S A0 H0 H1 locs1 → W p l e R s m args below meth c H1 locs1 (cells + mc) (slots + ms) Q (F0 m (pc + 3) ls (rest))) : W p l e R s m args below meth c H locs cells slots Q (F0 m pc ls st0) := by
  intro T hT X
  rcases hr T hT X with ⟨v, st₀, t, T', L, h0, X', hL, e1, e2, ⟨⟨u, hv, hp, hb⟩, hF⟩, st⟩ | ⟨q, st₀, t, T', L, E, ce, h0, X', hL, e1, e2, ⟨u, hp, hb, hF⟩, hce, hcv, hcl, st⟩
  · cases hv
    obtain ⟨k1, k2, k3⟩ := vx_keep h0 e1 hS hA hf hL hF
    obtain ⟨t2, a1, b1⟩ := kk u t T'.heap (locs ++ L) e1.symm (by rw [← e2]; exact X'.warmed.alike) hp hb k1 k2 k3 T' rfl X'
    exact ⟨t2, st t2 a1, b1⟩
  · obtain ⟨k1, k2, k3⟩ := vx_keep h0 e1 hS hAX hf hL hF
    obtain ⟨t2, a1, b1⟩ := kx E ce q u t T'.heap (locs ++ L) e1.symm (by rw [← e2]; exact X'.warmed.alike) hp hb k1 k2 k3 (by rw [e1]; exact hce) hcv hcl T' rfl X'
    exact ⟨t2, st.trans a1, b1⟩
/-- caught by the row x of this method's table; the rows ahead don't take it -/
theorem vx_catch {own name : String} {E : String} {ce : Cell} {q : Addr} (hown : s.vm.findClass own = some m.cls) (pre : List ExceptionTableEntry) (x : ExceptionTableEntry) (suf : List ExceptionTableEntry) (hsplit : c.exceptionTable.toList = pre ++ x :: suf)
    (hpass : ∀ z ∈ pre, covers z pc = false ∨ (z.catchType ≠ 0 ∧ ∃ nm : String, (Cond.classLink own z.catchType nm).before args s = true ∧ va_Nc E nm s)) (hx : covers x pc = true) (h0 : x.catchType ≠ 0)
    (hlink : (Cond.classLink own x.catchType name).before args s = true) (hcast : (Cond.castable E name).before args s = true) (hcell : H[q]? = some ce) (hv : ce.vm = .none) (hcl : s.vm.findClass E = some ce.cls)
    (kk : W p l e R s m args below meth c H locs cells slots Q (F0 m x.handlerPc ls [.ref q])) : vx_W p l e R s m args below meth c H locs cells slots Q (F0 m pc ls rest) q := by
  intro T hT X
  have hpl : e.platform.magicAccessors = ({} : Platform).magicAccessors := by rw [X.admits.platform]
  obtain ⟨c3, c4, hc3, hc4, hasg⟩ := Cond.castable_spec hcast
  cases Option.some.inj (hc3.symm.trans hcl)
  obtain ⟨c5, hc5, hcl5⟩ := Cond.classLink_spec hown hlink e.platform hpl
  cases Option.some.inj (hc4.symm.trans hc5)
  obtain ⟨vm', X', st⟩ := X.thenCaughtThrough q (g := F0 m pc ls rest) rfl (Steps.refl _) (by rw [hT]; exact hcell) (by rw [hv]; rfl) (by obtain ⟨k9, h9, -⟩ := Vm.findClass_spec hcl; exact ⟨k9, h9⟩) pre x suf hsplit
    (fun z hz => by
      rcases hpass z hz with h | ⟨hz0, nm, hl1, hn1⟩
      · exact Or.inl h
      · obtain ⟨c6, hc6, hcl6⟩ := Cond.classLink_spec hown hl1 e.platform hpl
        obtain ⟨a8, b8, h1, h2, h3⟩ := hn1
        cases Option.some.inj (h1.symm.trans hcl)
        cases Option.some.inj (h2.symm.trans hc6)
        exact Or.inr ⟨hz0, _, hcl6, h3⟩) hx (Or.inr ⟨h0, c4, hcl5, hasg⟩)
  obtain ⟨t, a1, b1⟩ := kk (T.setVm vm') hT X'
  exact ⟨t, st.trans a1, b1⟩
end Rows
section Ends
variable {p : Program} {l : Launch} {e : Env} {R : Room} {s : State} {m : MethodId} {args : Array Value} {below : List Frame} {meth : Method} {c : Code} {H : Heap} {locs : List Loc} {cells slots : Nat} {Q : State → Prop}
variable {mc ms : Nat} {free : Addr → Prop} {A0 A1 : Nat → Prop} {H0 : Heap} {a : Array Value} {ls : Array Slot} {st0 rest : List Value}
variable {Qc : Array Value → State → Outcome → State → Prop} {XC : String → State → State → Prop}
/-- what a body that may throw owes at its end -/
def vx_MQ (below : List Frame) (Qc : Array Value → State → Outcome → State → Prop) (XC : String → State → State → Prop) (a : Array Value) (s : State) (mc ms : Nat) (free : Addr → Prop) : State → Prop := fun t =>
  ∃ o, t.status = .running ∧ Ended t below o ∧ vx_Q Qc XC mc ms free a s o t
theorem vx_ret {g : JFrame} {mc ms : Nat} (k : W p l e R s m args below meth c H locs cells slots (MQ below Qc args s mc ms free) g) : W p l e R s m args below meth c H locs cells slots (vx_MQ below Qc XC args s mc ms free) g := by
  intro T hT X
  obtain ⟨t, a1, o, b1, b2, b3, b4⟩ := k T hT X
  exact ⟨t, a1, o, b1, b2, Or.inl ⟨b3, b4⟩⟩
/-- not caught here: it goes on to the caller -/
theorem vx_widen {g : JFrame} {q : Addr} {k n : Nat} (h1 : cells ≤ k) (h2 : slots ≤ n) (kk : vx_W p l e R s m args below meth c H locs k n Q g q) : vx_W p l e R s m args below meth c H locs cells slots Q g q := fun T hT X => kk T hT (stand_widen X h1 h2)
theorem vx_out {pc : Nat} {E : String} {ce : Cell} {q : Addr} {mc ms : Nat} (hout : ∀ x ∈ c.exceptionTable.toList, covers x pc = false) (hlocks : meth.locks = false) (hcell : H[q]? = some ce) (hv : ce.vm = .none) (hcl : s.vm.findClass E = some ce.cls)
    (hx : ∀ t : State, t.heap = H → s.vm.Alike t.vm → XC E s t) (hf : ∀ z ∈ locs, free z.base) (hc : cells ≤ mc) (hs : slots ≤ ms) :
    vx_W p l e R s m args below meth c H locs cells slots (vx_MQ below Qc XC args s mc ms free) (F0 m pc ls rest) q := by
  intro T hT X
  obtain ⟨st1, hrun, hend, hW, hsm⟩ := X.leaveThrown q (g := F0 m pc ls rest) rfl rfl rfl hout hlocks
  have hcell9 : (T.setFrames (.throwing q :: below)).heap[q]? = some ce := by
    show T.heap[q]? = some ce
    rw [hT]; exact hcell
  exact ⟨_, st1, .threw q, hrun, hend, Or.inr ⟨q, rfl, E, ce, locs, hx _ hT hW.alike, hcell9, hv, hcl, hW, hsm.mono hc hs, hf⟩⟩
theorem vx_frame {U : State} {k n : Nat} (h : s.sameButNew ({ U with vm := s.vm } : State) locs k n) : s.heap.size ≤ U.heap.size ∧ ∀ q : Nat, q < s.heap.size → (∀ z ∈ locs, z.base ≠ q) → U.heap[q]? = s.heap[q]? := by
  obtain ⟨-, h2, -, -, -, h6⟩ := h
  refine ⟨h2, fun q hq hz => ?_⟩
  obtain ⟨c9, e1, e2, e3, e4⟩ := h6 q _ (Array.getElem?_eq_getElem hq)
  have hs : c9.slots = (s.heap[q]).slots := Array.ext_getElem? fun i => e4 i fun hm => hz _ hm rfl
  have h9 : c9 = s.heap[q] := by
    rw [hs] at e2
    exact e2
  have e5 : U.heap[q]? = some c9 := e1
  rw [e5, h9, Array.getElem?_eq_getElem hq]
/-- the words of a throw but the four that speak of the heap -/
def vx_no (w : Cond) : Bool := decide (w ≠ .isRef (.static Bundle.tN "UNASSIGNED_STACK" Bundle.steD)) && decide (w ≠ .isRef (.static Bundle.tN "SUPPRESSED_SENTINEL" Bundle.listD)) && decide (w ≠ .laysStatic Bundle.tN "UNASSIGNED_STACK" Bundle.steD) && decide (w ≠ .laysStatic Bundle.tN "SUPPRESSED_SENTINEL" Bundle.listD)
def vx_at0 (own : String) (ic : Nat) (X : String) (names : List String) : List Cond := (Bundle.ownAtoms0 own ic X names).filter vx_no
def vx_atS (own : String) (ic : Nat) (X : String) (names : List String) : List Cond := (Bundle.ownAtoms own ic X names).filter vx_no
/-- a word that the tables alone decide, or a good one -/
def vx_ot (w : Cond) : Bool := w.onTables || goodWord w
theorem vx_ot_at {args a' : Array Value} {s U : State} {w : Cond} (hW : s.WarmedH U.vm) (hvm : s.vm = U.vm) (hg : vx_ot w = true) (h : w.before args s = true) : w.before a' U = true := by
  simp only [vx_ot, Bool.or_eq_true] at hg
  rcases hg with hg | hg
  · exact va_tabs hg hvm h
  · exact word_at hW (good_of_word hg) h
/-- a list's words: the good ones out of the method's own list, the others by premises of their own -/
theorem vx_hat {args : Array Value} {s : State} {L B : List Cond} (h1 : ∀ w ∈ L.filter goodWord, w.before args s = true) (h2 : ∀ w ∈ L.filter (fun w => !goodWord w), w ∈ B) (h3 : ∀ w ∈ B, w.before args s = true) : ∀ w ∈ L, w.before args s = true := by
  intro w hw
  by_cases g : goodWord w = true
  · exact h1 w (List.mem_filter.mpr ⟨hw, g⟩)
  · refine h3 w (h2 w (List.mem_filter.mpr ⟨hw, ?_⟩))
    show (!goodWord w) = true
    cases hgw : goodWord w
    · rfl
    · exact absurd hgw g
theorem vx_c {args : Array Value} {s : State} {w : Cond} {B : List Cond} (h : w.before args s = true) (t : ∀ w ∈ B, w.before args s = true) : ∀ w' ∈ w :: B, w'.before args s = true := fun w' h' => (List.mem_cons.mp h').elim (fun e => by rw [e]; exact h) (t w')
theorem vx_n {args : Array Value} {s : State} : ∀ w ∈ ([] : List Cond), w.before args s = true := fun _ h => nomatch h
theorem vx_own {args : Array Value} {s : State} {L : List Cond} (h1 : ∀ w ∈ L.filter vx_no, w.before args s = true)
    (hU : (Cond.isRef (.static Bundle.tN "UNASSIGNED_STACK" Bundle.steD)).before args s = true) (hN : (Cond.isRef (.static Bundle.tN "SUPPRESSED_SENTINEL" Bundle.listD)).before args s = true)
    (lU : (Cond.laysStatic Bundle.tN "UNASSIGNED_STACK" Bundle.steD).before args s = true) (lN : (Cond.laysStatic Bundle.tN "SUPPRESSED_SENTINEL" Bundle.listD).before args s = true) : ∀ w ∈ L, w.before args s = true := by
  intro w hw
  by_cases e1 : w = .isRef (.static Bundle.tN "UNASSIGNED_STACK" Bundle.steD)
  · rw [e1]; exact hU
  · by_cases e2 : w = .isRef (.static Bundle.tN "SUPPRESSED_SENTINEL" Bundle.listD)
    · rw [e2]; exact hN
    · by_cases e3 : w = .laysStatic Bundle.tN "UNASSIGNED_STACK" Bundle.steD
      · rw [e3]; exact lU
      · by_cases e4 : w = .laysStatic Bundle.tN "SUPPRESSED_SENTINEL" Bundle.listD
        · rw [e4]; exact lN
        · exact h1 w (List.mem_filter.mpr ⟨hw, by unfold vx_no; rw [decide_eq_true e1, decide_eq_true e2, decide_eq_true e3, decide_eq_true e4]; rfl⟩)
/-- where a static field lies, its class's statics cell in H -/
def vx_L (C n d : String) (A : Nat → Prop) (U : State) (H : Heap) : Prop := ∃ (c : ClassId) (k : Class) (i : Nat) (f : Field) (a : Nat) (cell : Cell), U.vm.findClass C = some c ∧ U.fieldFound? C n d = some (c, k, i, f) ∧ f.isStatic = true ∧ k.statics = some a ∧ H[a]? = some cell ∧ cell.vm.isStatics = true ∧ cell.cls = c ∧ f.slot < cell.slots.size ∧ k.staticTypes[f.slot]? = some f.type ∧ ¬ A a
theorem vx_L.moved {C n d : String} {A : Nat → Prop} {u U : State} {H : Heap} (hvm : u.vm.Alike U.vm) (h : vx_L C n d A u H) : vx_L C n d A U H := by
  obtain ⟨c, k, i, f, a, cell, h1, h2, h3, h4, h5, h6, h7, h8, h9, h10⟩ := h
  obtain ⟨k', hi', he⟩ := State.fieldFound?_setVm hvm h2
  exact ⟨c, k', i, f, a, cell, by rw [hvm.findClass]; exact h1, hi', h3, by rw [he]; exact h4, h5, h6, h7, h8, by rw [he]; exact h9, h10⟩
theorem vx_L.kept {C n d : String} {A : Nat → Prop} {U : State} {H H1 : Heap} (h : vx_L C n d A U H) (hq : ∀ a : Nat, a < H.size → ¬ A a → H1[a]? = H[a]?) : vx_L C n d A U H1 := by
  obtain ⟨c, k, i, f, a, cell, h1, h2, h3, h4, h5, h6, h7, h8, h9, h10⟩ := h
  exact ⟨c, k, i, f, a, cell, h1, h2, h3, h4, by rw [hq a (Array.getElem?_eq_some_iff.mp h5).1 h10]; exact h5, h6, h7, h8, h9, h10⟩
theorem vx_L.narrow {C n d : String} {A B : Nat → Prop} {U : State} {H : Heap} (h : vx_L C n d A U H) (hAB : ∀ q, B q → A q) : vx_L C n d B U H := by
  obtain ⟨c, k, i, f, a, cell, h1, h2, h3, h4, h5, h6, h7, h8, h9, h10⟩ := h
  exact ⟨c, k, i, f, a, cell, h1, h2, h3, h4, h5, h6, h7, h8, h9, fun z => h10 (hAB _ z)⟩
theorem vx_L.word {C n d : String} {A : Nat → Prop} {s : State} {args : Array Value} (h : vx_L C n d A s s.heap) : (Cond.laysStatic C n d).before args s = true := by
  obtain ⟨c, k, i, f, a, cell, h1, h2, h3, h4, h5, h6, h7, h8, h9, -⟩ := h
  show (Cond.laysStatic C n d).holds args s none s [] = true
  exact Cond.laysStatic_of h1 h2 h3 h4 h5 h6 h7 h8 h9
/-- .. and what it holds: null or some reference -/
def vx_Zq (C n d : String) (A : Nat → Prop) (U : State) (H : Heap) : Prop := va_Zq C n d A U H ∧ vx_L C n d A U H
theorem vx_Zq.moved {C n d : String} {A : Nat → Prop} {u U : State} {H : Heap} (hvm : u.vm.Alike U.vm) (h : vx_Zq C n d A u H) : vx_Zq C n d A U H := ⟨va_Zq.moved hvm h.1, vx_L.moved hvm h.2⟩
theorem vx_Zq.kept {C n d : String} {A : Nat → Prop} {U : State} {H H1 : Heap} (h : vx_Zq C n d A U H) (hq : ∀ a : Nat, a < H.size → ¬ A a → H1[a]? = H[a]?) : vx_Zq C n d A U H1 := ⟨va_Zq.kept h.1 hq, vx_L.kept h.2 hq⟩
theorem vx_Zq.narrow {C n d : String} {A B : Nat → Prop} {U : State} {H : Heap} (h : vx_Zq C n d A U H) (hAB : ∀ q, B q → A q) : vx_Zq C n d B U H := ⟨va_Zq.narrow h.1 hAB, vx_L.narrow h.2 hAB⟩
theorem vx_Zqof {args : Array Value} {s : State} {C n d : String} {A : Nat → Prop} (hl : (Cond.laysStatic C n d).before args s = true) (hini : (Cond.initialized C).before args s = true) (h : (Cond.isRef (.static C n d)).before args s = true) (hA : ∀ a : Nat, a < s.heap.size → ¬ A a) : vx_Zq C n d A s s.heap := by
  refine ⟨va_Zqof hl hini h hA, ?_⟩
  obtain ⟨c, k, i, f, a, cell, h1, h2, h3, h4, h5, h6, h7, h8, h9⟩ := Cond.laysStatic_spec hl
  exact ⟨c, k, i, f, a, cell, h1, h2, h3, h4, h5, h6, h7, h8, h9, hA a (Array.getElem?_eq_some_iff.mp h5).1⟩
theorem vx_isRef {C n d : String} {v : Value} {A : Nat → Prop} {s : State} {args : Array Value} (h : va_Z C n d v A s s.heap) (hv : v.isRef = true) : (Cond.isRef (.static C n d)).before args s = true := by
  obtain ⟨cf, kf, fi, f, a, cell, h1, h2, h3, h4, h5, h6, h7, -⟩ := h
  have he : (Term.static C n d).eval args s none [] s = some v := by
    simp [Term.eval, State.fieldNamed?, h1, h2, h4, h5, h6, h7]
  simp only [Cond.before, Cond.holds, Cond.value, he]
  cases v <;> simp_all [Value.isRef]
theorem vx_isRefq {C n d : String} {A : Nat → Prop} {s : State} {args : Array Value} (h : va_Zq C n d A s s.heap) : (Cond.isRef (.static C n d)).before args s = true := by
  rcases h with h | ⟨t, h⟩
  · exact vx_isRef h rfl
  · exact vx_isRef h rfl
/-- the same frame, seen from here: as if the method were called anew in this heap -/
theorem vx_rebase {T : State} (X : Stand p l e R s m args below meth c T locs cells slots) {R' : Room} (hf : R'.frames ≤ R.frames) (hl : R'.locals ≤ R.locals) (hc : cells + R'.cells ≤ R.cells) (hs : slots + R'.slots ≤ R.slots) :
    Stand p l e R' ((T.setVm s.vm).setFrames (.invoking m args :: below)) m args below meth c T [] 0 0 := by
  have htop : (T.setVm s.vm).topJava?.isSome := X.here.top
  have hF : ((T.setVm s.vm).setFrames (.invoking m args :: below)).frames = .invoking m args :: below := State.frames_setFrames _ (State.cur_lt_of_top htop)
  obtain ⟨g₀, hg0⟩ := Option.isSome_iff_exists.mp htop
  obtain ⟨r, hr⟩ := State.topJava?_eq_some.mp hg0
  have hl9 : e.platform.stackLimits (T.setVm s.vm).me = e.platform.stackLimits s.me := X.limits
  have hb9 : (T.setVm s.vm).me.stackBytes = s.me.stackBytes := X.bytes
  refine ⟨X.admits, X.cas, X.clock, hF, ?_, X.hears, X.method, X.code, X.here, X.tail, X.warmed, ?_, ?_, ?_⟩
  · have h := X.room
    have hU : ((T.setVm s.vm).setFrames (.invoking m args :: below)).localsInUse = s.localsInUse := by
      rw [State.localsInUse_invoking hF (meth := meth) (c := c) X.method X.code, State.localsInUse_invoking X.frames X.method X.code]
    simp only [State.hasRoom, Bool.and_eq_true, decide_eq_true_eq] at h ⊢
    obtain ⟨⟨⟨⟨h1, h2, h3, h4, h5, h6⟩, h7⟩, h8⟩, h9⟩ := h
    rw [X.frames, List.length_cons] at h2 h3
    have q1 := X.heapSize
    have q2 := X.used
    simp only [hF, hU, List.length_cons, State.stackLimits_setFrames, State.stackBytes_setFrames, hl9, hb9]
    refine ⟨⟨⟨⟨by omega, by omega, by omega, by omega, by omega, h6⟩, ?_⟩, ?_⟩, X.book⟩
    · show T.heap.size + R'.cells ≤ e.platform.maxCells
      omega
    · show T.slotsUsed + R'.slots ≤ e.platform.maxSlots
      omega
  · rw [State.stackLimits_setFrames]; rfl
  · rw [State.stackBytes_setFrames]; rfl
  · refine ⟨?_, Nat.le_refl _, Nat.le_refl _, ?_, ?_, fun a c9 h9 => ⟨c9, h9, rfl, rfl, fun _ _ => rfl⟩⟩
    · obtain ⟨t, ht, -⟩ := State.frames_cons hr
      show T.setVm s.vm = { ((T.setVm s.vm).setFrames (.invoking m args :: below)).setFrames (T.setVm s.vm).frames with heap := T.heap, slotsUsed := T.slotsUsed }
      rw [State.setFrames_setFrames, State.setFrames_self ht]
      rfl
    · show T.slotsUsed = T.slotsUsed + ((T.heap.toList.drop T.heap.size).map (·.slots.size)).sum
      rw [List.drop_eq_nil_of_le (Nat.le_of_eq Array.length_toList)]
      rfl
    · show ((T.heap.toList.drop T.heap.size).map (·.slots.size)).sum ≤ 0
      rw [List.drop_eq_nil_of_le (Nat.le_of_eq Array.length_toList)]
      exact Nat.le_refl _
/-- 'throw new E()': new; dup; invokespecial; athrow -/
theorem vx_throw0 {cc : ByteArray} {pc : Nat} (hexec : p.tables.exec = Jvm.exec) (hb : c.code = cc) (hl : l.stackTraces = false) {own cls : String} {names : List String} {ik ic mc ms : Nat} {A : Nat → Prop}
    (hown : s.vm.findClass own = some m.cls) (hcls : Bundle.fit cls = true) (hnames : ∀ n ∈ names, Bundle.fit n = true)
    (hk : (Cond.classLink own ik cls).before args s = true) (hini : (Cond.initialized cls).before args s = true) (hat : ∀ w ∈ vx_at0 own ic cls names, w.before args s = true)
    (hgood : ∀ w ∈ Cond.classLink own ik cls :: Cond.initialized cls :: vx_at0 own ic cls names, vx_ot w = true)
    (hU : vx_Zq Bundle.tN "UNASSIGNED_STACK" Bundle.steD A s s.heap) (hN : vx_Zq Bundle.tN "SUPPRESSED_SENTINEL" Bundle.listD A s s.heap) (hS : va_S A s.heap H locs) (hsize : ls.size = c.maxLocals)
    (d0 : decode cc pc = .ok (.new ik, 3)) (d3 : decode cc (pc + 3) = .ok (.dup, 1)) (d4 : decode cc (pc + 4) = .ok (.invokespecial ic, 3)) (d7 : decode cc (pc + 7) = .ok (.athrow, 1))
    (hout : ∀ x ∈ c.exceptionTable.toList, covers x (pc + 7) = false)
    (hRframes : names.length + 3 < R.frames) (hRlocals : (rest.map fun v => v.category).sum + (13 * (names.length + 1) + 42) ≤ R.locals) (hRcells : cells + 1 ≤ R.cells) (hRslots : slots + 6 ≤ R.slots) (hlocks : meth.locks = false)
    (hx : ∀ t : State, s.vm.Alike t.vm → H.size ≤ t.heap.size → (∀ q : Nat, q < H.size → t.heap[q]? = H[q]?) → XC cls s t)
    (hf : ∀ z ∈ locs, free z.base) (hc : cells + 1 ≤ mc) (hs : slots + 6 ≤ ms) :
    W p l e R s m args below meth c H locs cells slots (vx_MQ below Qc XC args s mc ms free) (F0 m pc ls rest) := by
  intro T hT X
  have htr : e.platform.stackTraces = false := (show e.platform.stackTraces = l.stackTraces by rw [X.admits.platform]).trans hl
  have Y := vx_rebase X (R' := { frames := R.frames, locals := R.locals, cells := 1, slots := 6 }) (Nat.le_refl _) (Nat.le_refl _) hRcells hRslots
  obtain ⟨s', hA⟩ : ∃ z, z = (T.setVm s.vm).setFrames (.invoking m args :: below) := ⟨_, rfl⟩
  rw [← hA] at Y
  have hvm : s'.vm = s.vm := by rw [hA]; rfl
  have hhp : s'.heap = H := by rw [hA]; exact hT
  have hW0 : s.WarmedH s'.vm := by rw [hvm]; exact State.WarmedH.refl s
  have hat' : ∀ w ∈ vx_at0 own ic cls names, w.before args s' = true := fun w hw => vx_ot_at hW0 hvm.symm (hgood w (List.mem_cons_of_mem _ (List.mem_cons_of_mem _ hw))) (hat w hw)
  have hk' : (Cond.classLink own ik cls).before args s' = true := vx_ot_at hW0 hvm.symm (hgood _ List.mem_cons_self) hk
  have hini' : (Cond.initialized cls).before args s' = true := vx_ot_at hW0 hvm.symm (hgood _ (List.mem_cons_of_mem _ List.mem_cons_self)) hini
  have hU' : vx_Zq Bundle.tN "UNASSIGNED_STACK" Bundle.steD A s' s'.heap := by rw [hhp]; exact vx_Zq.moved hW0.alike (hU.kept hS.2.1)
  have hN' : vx_Zq Bundle.tN "SUPPRESSED_SENTINEL" Bundle.listD A s' s'.heap := by rw [hhp]; exact vx_Zq.moved hW0.alike (hN.kept hS.2.1)
  have h : ∀ w ∈ Bundle.ownAtoms0 own ic cls names, w.before args s' = true := vx_own hat' (vx_isRefq hU'.1) (vx_isRefq hN'.1) hU'.2.word hN'.2.word
  have hown' : s'.vm.findClass own = some m.cls := by rw [hvm]; exact hown
  have hins : (Cond.instantiable cls 6).before args s' = true := h _ (by simp [Bundle.ownAtoms0])
  obtain ⟨vm₁, cX, kX, hfX, hkX, -, -, X₁, st1⟩ := Y.newCold hexec (own := own) (C := cls) (index := ik) (n := 6) hown' hk' hins hini'
    (g := F0 m pc ls rest) rfl (by rw [hb]; exact d0) (Nat.le_refl _) (Nat.le_refl _)
  generalize hT1 : (T.setVm vm₁).pushCell { cls := cX, slots := kX.instanceTypes.map defaultValue, vm := .none } = T1 at X₁ st1
  have hcat : (Value.ref T.heap.size).category = 1 := rfl
  have hcellA : T1.heap[T.heap.size]? = some (freshCell cX kX) := by rw [← hT1]; exact State.heap_pushCell_size _ _
  have d3' : decode c.code (pc + 3) = .ok (.dup, 1) := by rw [hb]; exact d3
  obtain ⟨U, hsteps, hrun, hend, hW, hsame, ce, hce, hO⟩ := X₁.ctorThrow0 hexec htr (own := own) (cls := cls) (names := names) (ic := ic) hown' hcls hnames h (fun x hx => nomatch hx) hfX hkX hcellA (by rw [hhp, hT]; exact Nat.le_refl _)
    (g := { method := m, pc := pc + 4, locals := ls, stack := .ref T.heap.size :: .ref T.heap.size :: rest, locked := none }) rfl hsize rfl rfl (rest := rest) rfl
    (by rw [hb]; exact d4) (by rw [hb]; exact d7) hout hRframes (by simp only [List.map_cons, List.sum_cons, hcat]; omega) hlocks
  obtain ⟨f1, f2⟩ := vx_frame hsame
  rw [hhp] at f1 f2
  have hWs : s.WarmedH U.vm := State.WarmedH.trans hW0 hW
  have hcl : s.vm.findClass cls = some ce.cls := by
    have h9 := hO.cls
    rw [hvm] at h9
    exact h9
  have hall : s.sameButNew ({ U with vm := s.vm } : State) locs mc ms := by
    subst hA
    obtain ⟨e1, e2⟩ := hsame
    rw [State.setFrames_setFrames] at e1
    have h2 : (T.setVm s.vm).sameButNew ({ U with vm := s.vm } : State) [] (0 + 1) (0 + 6) := ⟨e1, e2⟩
    have h3 := X.same.trans h2
    rw [List.append_nil] at h3
    exact h3.mono hc hs
  refine ⟨U, ?_, .threw T.heap.size, hrun, hend, Or.inr ⟨T.heap.size, rfl, cls, ce, locs, hx U hWs.alike f1 (fun q hq => f2 q hq (fun z hz => nomatch hz)), hce, hO.vm, hcl, hWs, hall, hf⟩⟩
  refine st1 _ ?_
  show Steps p.tables e below (T1.setTop { method := m, pc := pc + 3, locals := ls, stack := .ref T.heap.size :: rest, locked := none }) _
  jvm_step X₁.here [X₁.here.top, hexec, d3', Value.category]
  exact hsteps
/-- 'throw new E("text")': new; dup; ldc; invokespecial; athrow -/
theorem vx_throwS {cc : ByteArray} {pc : Nat} (hexec : p.tables.exec = Jvm.exec) (hb : c.code = cc) (hl : l.stackTraces = false) {own cls text : String} {names : List String} {ik is ic mc ms sa : Nat} {A : Nat → Prop}
    (hown : s.vm.findClass own = some m.cls) (hcls : Bundle.fit cls = true) (hnames : ∀ n ∈ names, Bundle.fit n = true)
    (hk : (Cond.classLink own ik cls).before args s = true) (hini : (Cond.initialized cls).before args s = true) (hstr : vk_R own is text sa s) (hat : ∀ w ∈ vx_atS own ic cls names, w.before args s = true)
    (hgood : ∀ w ∈ Cond.classLink own ik cls :: Cond.initialized cls :: vx_atS own ic cls names, vx_ot w = true)
    (hU : vx_Zq Bundle.tN "UNASSIGNED_STACK" Bundle.steD A s s.heap) (hN : vx_Zq Bundle.tN "SUPPRESSED_SENTINEL" Bundle.listD A s s.heap) (hS : va_S A s.heap H locs) (hsize : ls.size = c.maxLocals)
    (d0 : decode cc pc = .ok (.new ik, 3)) (d3 : decode cc (pc + 3) = .ok (.dup, 1)) (d4 : decode cc (pc + 4) = .ok (.ldc is, 2)) (d6 : decode cc (pc + 6) = .ok (.invokespecial ic, 3)) (d9 : decode cc (pc + 9) = .ok (.athrow, 1))
    (hout : ∀ x ∈ c.exceptionTable.toList, covers x (pc + 9) = false)
    (hRframes : names.length + 3 < R.frames) (hRlocals : (rest.map fun v => v.category).sum + (13 * (names.length + 1) + 43) ≤ R.locals) (hRcells : cells + 1 ≤ R.cells) (hRslots : slots + 6 ≤ R.slots) (hlocks : meth.locks = false)
    (hx : ∀ t : State, s.vm.Alike t.vm → H.size ≤ t.heap.size → (∀ q : Nat, q < H.size → t.heap[q]? = H[q]?) → XC cls s t)
    (hf : ∀ z ∈ locs, free z.base) (hc : cells + 1 ≤ mc) (hs : slots + 6 ≤ ms) :
    W p l e R s m args below meth c H locs cells slots (vx_MQ below Qc XC args s mc ms free) (F0 m pc ls rest) := by
  intro T hT X
  have htr : e.platform.stackTraces = false := (show e.platform.stackTraces = l.stackTraces by rw [X.admits.platform]).trans hl
  have Y := vx_rebase X (R' := { frames := R.frames, locals := R.locals, cells := 1, slots := 6 }) (Nat.le_refl _) (Nat.le_refl _) hRcells hRslots
  obtain ⟨s', hA⟩ : ∃ z, z = (T.setVm s.vm).setFrames (.invoking m args :: below) := ⟨_, rfl⟩
  rw [← hA] at Y
  have hvm : s'.vm = s.vm := by rw [hA]; rfl
  have hhp : s'.heap = H := by rw [hA]; exact hT
  have hW0 : s.WarmedH s'.vm := by rw [hvm]; exact State.WarmedH.refl s
  have hat' : ∀ w ∈ vx_atS own ic cls names, w.before args s' = true := fun w hw => vx_ot_at hW0 hvm.symm (hgood w (List.mem_cons_of_mem _ (List.mem_cons_of_mem _ hw))) (hat w hw)
  have hk' : (Cond.classLink own ik cls).before args s' = true := vx_ot_at hW0 hvm.symm (hgood _ List.mem_cons_self) hk
  have hini' : (Cond.initialized cls).before args s' = true := vx_ot_at hW0 hvm.symm (hgood _ (List.mem_cons_of_mem _ List.mem_cons_self)) hini
  have hU' : vx_Zq Bundle.tN "UNASSIGNED_STACK" Bundle.steD A s' s'.heap := by rw [hhp]; exact vx_Zq.moved hW0.alike (hU.kept hS.2.1)
  have hN' : vx_Zq Bundle.tN "SUPPRESSED_SENTINEL" Bundle.listD A s' s'.heap := by rw [hhp]; exact vx_Zq.moved hW0.alike (hN.kept hS.2.1)
  have h : ∀ w ∈ Bundle.ownAtoms own ic cls names, w.before args s' = true := vx_own hat' (vx_isRefq hU'.1) (vx_isRefq hN'.1) hU'.2.word hN'.2.word
  have hown' : s'.vm.findClass own = some m.cls := by rw [hvm]; exact hown
  have hins : (Cond.instantiable cls 6).before args s' = true := h _ (by simp [Bundle.ownAtoms])
  obtain ⟨vm₁, cX, kX, hfX, hkX, -, -, X₁, st1⟩ := Y.newCold hexec (own := own) (C := cls) (index := ik) (n := 6) hown' hk' hins hini'
    (g := F0 m pc ls rest) rfl (by rw [hb]; exact d0) (Nat.le_refl _) (Nat.le_refl _)
  generalize hT1 : (T.setVm vm₁).pushCell { cls := cX, slots := kX.instanceTypes.map defaultValue, vm := .none } = T1 at X₁ st1
  have hcat : (Value.ref T.heap.size).category = 1 := rfl
  have hcellA : T1.heap[T.heap.size]? = some (freshCell cX kX) := by rw [← hT1]; exact State.heap_pushCell_size _ _
  have d3' : decode c.code (pc + 3) = .ok (.dup, 1) := by rw [hb]; exact d3
  have d4' : decode c.code (pc + 4) = .ok (.ldc is, 2) := by rw [hb]; exact d4
  have hstr' : vk_R own is text sa s' := vk_R.warm hW0 hstr
  obtain ⟨U, hsteps, hrun, hend, hW, hsame, ce, hce, hO⟩ := X₁.ctorThrowS hexec htr (own := own) (cls := cls) (names := names) (ic := ic) hown' hcls hnames h (fun x hx => nomatch hx) hfX hkX hcellA (by rw [hhp, hT]; exact Nat.le_refl _) (msg := .ref sa) rfl
    (g := { method := m, pc := pc + 6, locals := ls, stack := .ref sa :: .ref T.heap.size :: .ref T.heap.size :: rest, locked := none }) rfl hsize rfl rfl (rest := rest) rfl
    (by rw [hb]; exact d6) (by rw [hb]; exact d9) hout hRframes (by simp only [List.map_cons, List.sum_cons, hcat]; omega) hlocks
  obtain ⟨f1, f2⟩ := vx_frame hsame
  rw [hhp] at f1 f2
  have hWs : s.WarmedH U.vm := State.WarmedH.trans hW0 hW
  have hcl : s.vm.findClass cls = some ce.cls := by
    have h9 := hO.cls
    rw [hvm] at h9
    exact h9
  have hall : s.sameButNew ({ U with vm := s.vm } : State) locs mc ms := by
    subst hA
    obtain ⟨e1, e2⟩ := hsame
    rw [State.setFrames_setFrames] at e1
    have h2 : (T.setVm s.vm).sameButNew ({ U with vm := s.vm } : State) [] (0 + 1) (0 + 6) := ⟨e1, e2⟩
    have h3 := X.same.trans h2
    rw [List.append_nil] at h3
    exact h3.mono hc hs
  refine ⟨U, ?_, .threw T.heap.size, hrun, hend, Or.inr ⟨T.heap.size, rfl, cls, ce, locs, hx U hWs.alike f1 (fun q hq => f2 q hq (fun z hz => nomatch hz)), hce, hO.vm, hcl, hWs, hall, hf⟩⟩
  refine st1 _ ?_
  show Steps p.tables e below (T1.setTop { method := m, pc := pc + 3, locals := ls, stack := .ref T.heap.size :: rest, locked := none }) _
  jvm_step X₁.here [X₁.here.top, hexec, d3', Value.category]
  exact X₁.ldcString hexec (own := own) (text := text) (index := is) (a := sa) hown' hstr'.1 hstr'.2
    (g := { method := m, pc := pc + 4, locals := ls, stack := .ref T.heap.size :: .ref T.heap.size :: rest, locked := none }) rfl d4' _ hsteps
/-- 'throw new E("text")', the text by a wide index -/
theorem vx_throwSW {cc : ByteArray} {pc : Nat} (hexec : p.tables.exec = Jvm.exec) (hb : c.code = cc) (hl : l.stackTraces = false) {own cls text : String} {names : List String} {ik is ic mc ms sa : Nat} {A : Nat → Prop}
    (hown : s.vm.findClass own = some m.cls) (hcls : Bundle.fit cls = true) (hnames : ∀ n ∈ names, Bundle.fit n = true)
    (hk : (Cond.classLink own ik cls).before args s = true) (hini : (Cond.initialized cls).before args s = true) (hstr : vk_R own is text sa s) (hat : ∀ w ∈ vx_atS own ic cls names, w.before args s = true)
    (hgood : ∀ w ∈ Cond.classLink own ik cls :: Cond.initialized cls :: vx_atS own ic cls names, vx_ot w = true)
    (hU : vx_Zq Bundle.tN "UNASSIGNED_STACK" Bundle.steD A s s.heap) (hN : vx_Zq Bundle.tN "SUPPRESSED_SENTINEL" Bundle.listD A s s.heap) (hS : va_S A s.heap H locs) (hsize : ls.size = c.maxLocals)
    (d0 : decode cc pc = .ok (.new ik, 3)) (d3 : decode cc (pc + 3) = .ok (.dup, 1)) (d4 : decode cc (pc + 4) = .ok (.ldc_w is, 3)) (d7 : decode cc (pc + 7) = .ok (.invokespecial ic, 3)) (d10 : decode cc (pc + 10) = .ok (.athrow, 1))
    (hout : ∀ x ∈ c.exceptionTable.toList, covers x (pc + 10) = false)
    (hRframes : names.length + 3 < R.frames) (hRlocals : (rest.map fun v => v.category).sum + (13 * (names.length + 1) + 43) ≤ R.locals) (hRcells : cells + 1 ≤ R.cells) (hRslots : slots + 6 ≤ R.slots) (hlocks : meth.locks = false)
    (hx : ∀ t : State, s.vm.Alike t.vm → H.size ≤ t.heap.size → (∀ q : Nat, q < H.size → t.heap[q]? = H[q]?) → XC cls s t)
    (hf : ∀ z ∈ locs, free z.base) (hc : cells + 1 ≤ mc) (hs : slots + 6 ≤ ms) :
    W p l e R s m args below meth c H locs cells slots (vx_MQ below Qc XC args s mc ms free) (F0 m pc ls rest) := by
  intro T hT X
  have htr : e.platform.stackTraces = false := (show e.platform.stackTraces = l.stackTraces by rw [X.admits.platform]).trans hl
  have Y := vx_rebase X (R' := { frames := R.frames, locals := R.locals, cells := 1, slots := 6 }) (Nat.le_refl _) (Nat.le_refl _) hRcells hRslots
  obtain ⟨s', hA⟩ : ∃ z, z = (T.setVm s.vm).setFrames (.invoking m args :: below) := ⟨_, rfl⟩
  rw [← hA] at Y
  have hvm : s'.vm = s.vm := by rw [hA]; rfl
  have hhp : s'.heap = H := by rw [hA]; exact hT
  have hW0 : s.WarmedH s'.vm := by rw [hvm]; exact State.WarmedH.refl s
  have hat' : ∀ w ∈ vx_atS own ic cls names, w.before args s' = true := fun w hw => vx_ot_at hW0 hvm.symm (hgood w (List.mem_cons_of_mem _ (List.mem_cons_of_mem _ hw))) (hat w hw)
  have hk' : (Cond.classLink own ik cls).before args s' = true := vx_ot_at hW0 hvm.symm (hgood _ List.mem_cons_self) hk
  have hini' : (Cond.initialized cls).before args s' = true := vx_ot_at hW0 hvm.symm (hgood _ (List.mem_cons_of_mem _ List.mem_cons_self)) hini
  have hU' : vx_Zq Bundle.tN "UNASSIGNED_STACK" Bundle.steD A s' s'.heap := by rw [hhp]; exact vx_Zq.moved hW0.alike (hU.kept hS.2.1)
  have hN' : vx_Zq Bundle.tN "SUPPRESSED_SENTINEL" Bundle.listD A s' s'.heap := by rw [hhp]; exact vx_Zq.moved hW0.alike (hN.kept hS.2.1)
  have h : ∀ w ∈ Bundle.ownAtoms own ic cls names, w.before args s' = true := vx_own hat' (vx_isRefq hU'.1) (vx_isRefq hN'.1) hU'.2.word hN'.2.word
  have hown' : s'.vm.findClass own = some m.cls := by rw [hvm]; exact hown
  have hins : (Cond.instantiable cls 6).before args s' = true := h _ (by simp [Bundle.ownAtoms])
  obtain ⟨vm₁, cX, kX, hfX, hkX, -, -, X₁, st1⟩ := Y.newCold hexec (own := own) (C := cls) (index := ik) (n := 6) hown' hk' hins hini'
    (g := F0 m pc ls rest) rfl (by rw [hb]; exact d0) (Nat.le_refl _) (Nat.le_refl _)
  generalize hT1 : (T.setVm vm₁).pushCell { cls := cX, slots := kX.instanceTypes.map defaultValue, vm := .none } = T1 at X₁ st1
  have hcat : (Value.ref T.heap.size).category = 1 := rfl
  have hcellA : T1.heap[T.heap.size]? = some (freshCell cX kX) := by rw [← hT1]; exact State.heap_pushCell_size _ _
  have d3' : decode c.code (pc + 3) = .ok (.dup, 1) := by rw [hb]; exact d3
  have d4' : decode c.code (pc + 4) = .ok (.ldc_w is, 3) := by rw [hb]; exact d4
  have hstr' : vk_R own is text sa s' := vk_R.warm hW0 hstr
  obtain ⟨U, hsteps, hrun, hend, hW, hsame, ce, hce, hO⟩ := X₁.ctorThrowS hexec htr (own := own) (cls := cls) (names := names) (ic := ic) hown' hcls hnames h (fun x hx => nomatch hx) hfX hkX hcellA (by rw [hhp, hT]; exact Nat.le_refl _) (msg := .ref sa) rfl
    (g := { method := m, pc := pc + 7, locals := ls, stack := .ref sa :: .ref T.heap.size :: .ref T.heap.size :: rest, locked := none }) rfl hsize rfl rfl (rest := rest) rfl
    (by rw [hb]; exact d7) (by rw [hb]; exact d10) hout hRframes (by simp only [List.map_cons, List.sum_cons, hcat]; omega) hlocks
  obtain ⟨f1, f2⟩ := vx_frame hsame
  rw [hhp] at f1 f2
  have hWs : s.WarmedH U.vm := State.WarmedH.trans hW0 hW
  have hcl : s.vm.findClass cls = some ce.cls := by
    have h9 := hO.cls
    rw [hvm] at h9
    exact h9
  have hall : s.sameButNew ({ U with vm := s.vm } : State) locs mc ms := by
    subst hA
    obtain ⟨e1, e2⟩ := hsame
    rw [State.setFrames_setFrames] at e1
    have h2 : (T.setVm s.vm).sameButNew ({ U with vm := s.vm } : State) [] (0 + 1) (0 + 6) := ⟨e1, e2⟩
    have h3 := X.same.trans h2
    rw [List.append_nil] at h3
    exact h3.mono hc hs
  refine ⟨U, ?_, .threw T.heap.size, hrun, hend, Or.inr ⟨T.heap.size, rfl, cls, ce, locs, hx U hWs.alike f1 (fun q hq => f2 q hq (fun z hz => nomatch hz)), hce, hO.vm, hcl, hWs, hall, hf⟩⟩
  refine st1 _ ?_
  show Steps p.tables e below (T1.setTop { method := m, pc := pc + 3, locals := ls, stack := .ref T.heap.size :: rest, locked := none }) _
  jvm_step X₁.here [X₁.here.top, hexec, d3', Value.category]
  exact X₁.ldcStringW hexec (own := own) (text := text) (index := is) (a := sa) hown' hstr'.1 hstr'.2
    (g := { method := m, pc := pc + 4, locals := ls, stack := .ref T.heap.size :: .ref T.heap.size :: rest, locked := none }) rfl d4' _ hsteps
end Ends
section Bodies
variable {l : Launch}
theorem vx_ofW {y : MethodName} {ws ws' : List Cond} {rm : Room} {Pc : Array Value → State → Prop} {Qc : Array Value → State → Outcome → State → Prop} {XC : String → State → State → Prop} {mc ms : Nat} {free : Addr → Prop} {cc : ByteArray} {maxL : Nat} {ret : Option FieldType}
    (hy : plainName y.cls = true) (hw : ws = Cond.code y cc maxL ret :: ws')
    (body : ∀ p e s m args below meth c s₁, BodyLoose p l y (headSpec ws rm) cc maxL ret e s m args below meth c s₁ → c.maxLocals = maxL → (∀ x ∈ c.exceptionTable.toList, False) → Pc args s →
      W p l e (headSpec ws rm).room s m args below meth c s.heap [] 0 0 (vx_MQ below Qc XC args s mc ms free) (entryFrame m args maxL)) : vx_Met l y ws rm Pc Qc XC mc ms free := by
  refine MetFree.of_bodyS (code := cc) (maxLocals := maxL) (ret := ret) hy ?_ ?_
  · intro args s m h hn
    obtain ⟨meth, c, h1, h2, h3, h4, h5, h6, -, -⟩ := Cond.code_spec hn (atoms_spec (ws := ws) h _ (by rw [hw]; exact List.mem_cons_self))
    exact ⟨meth, c, h1, h2, h3, h4, h5, h6⟩
  · intro p e s m args below meth c s₁ B hml hP _
    have hh0 : s₁.heap = s.heap := by rw [B.state]; rfl
    have ht : ∀ x ∈ c.exceptionTable.toList, False := by
      obtain ⟨meth9, c9, h1, h2, -, -, -, -, h7, -⟩ := Cond.code_spec B.named (atoms_spec (ws := ws) B.pre _ (by rw [hw]; exact List.mem_cons_self))
      cases Option.some.inj (h1.symm.trans B.method)
      cases Option.some.inj (h2.symm.trans (Stand.of_body B).code)
      intro x hx
      rw [Array.isEmpty_iff.mp h7] at hx
      cases hx
    obtain ⟨t, a1, o, b1, b2, b3⟩ := body p e s m args below meth c s₁ B hml ht hP s₁ hh0 (Stand.of_body B)
    exact ⟨t, o, a1, b1, b2, b3⟩
/-- the table of a body with handlers -/
theorem vx_table {p : Program} {x y : MethodName} {S : Spec} {cc bytes : ByteArray} {maxL maxL' : Nat} {ret ret' : Option FieldType} {e : Env} {s s₁ : State} {m : MethodId} {args : Array Value} {below : List Frame} {meth : Method} {c : Code} {hh : List (Nat × Nat × Nat × Nat)}
    (B : BodyLoose p l y S cc maxL ret e s m args below meth c s₁) (h : (Cond.codeWith y bytes maxL' ret' hh).before args s = true) : c.exceptionTable.toList = tableOf hh := by
  obtain ⟨m9, meth9, c9, hn9, h1, h2, -, -, h6, -⟩ := Cond.codeWith_spec h
  cases Option.some.inj (hn9.symm.trans B.named)
  cases Option.some.inj (h1.symm.trans B.method)
  cases Option.some.inj (h2.symm.trans (Stand.of_body B).code)
  rw [← h6, table_eq]
end Bodies
end VXA
/-! ===== END ===== -/
/-! ===== BEGIN a static call of a method with an exception table ===== -/
section VXS
variable {p : Program} {l : Launch} {e : Env} {R : Room} {s : State} {m : MethodId} {args : Array Value} {below : List Frame} {meth : Method} {c : Code} {T : State} {H : Heap} {locs : List Loc} {cells slots : Nat}
abbrev vx_CSW (R : Room) (s : State) (args : Array Value) (own : String) (index : Nat) (y : MethodName) (bytes : ByteArray) (maxL : Nat) (ret : Option FieldType) (hh : List (Nat × Nat × Nat × Nat)) (ws : List Cond) (rm : Room) (mc ms n : Nat) : Prop :=
  (rm.cells = mc ∧ rm.slots = ms ∧ rm.frames + 1 ≤ R.frames ∧ 8 + (maxL + 11) + rm.locals ≤ R.locals ∧ (∀ w ∈ ws, ∀ (a' : Array Value) (U : State), s.WarmedH U.vm → w.before a' U = true) ∧ Cond.codeWith y bytes maxL ret hh ∈ ws) ∧
  (Cond.codeWith y bytes maxL ret hh).before args s = true ∧ (Cond.initialized y.cls).before args s = true ∧ (y.cls ≠ "java/lang/invoke/MethodHandle" ∧ y.cls ≠ "java/lang/invoke/VarHandle") ∧
  (∀ sig, parseMethodDescriptor y.desc = some sig → n = sig.parameters.length) ∧ (Cond.methodLink own index y).before args s = true ∧ (Cond.static y).before args s = true
theorem vx_cwSW {own : String} {index maxL mc ms : Nat} {y : MethodName} {bytes : ByteArray} {ret : Option FieldType} {hh : List (Nat × Nat × Nat × Nat)} {Ts ws ws' : List Cond} {rm : Room} (n : Nat) (ht : ∀ w ∈ Ts, w.before args s = true) (hT : GoodIn Ts (va_wsS own index y ws)) (hw : ws = Cond.codeWith y bytes maxL ret hh :: ws') (hrc : rm.cells = mc) (hrs : rm.slots = ms)
    (hd : y.cls ≠ "java/lang/invoke/MethodHandle" ∧ y.cls ≠ "java/lang/invoke/VarHandle" ∧ (parseMethodDescriptor y.desc).map (fun d => d.parameters.length) = some n) (hR : rm.frames + 1 ≤ R.frames ∧ 8 + (maxL + 11) + rm.locals ≤ R.locals) :
    vx_CSW R s args own index y bytes maxL ret hh ws rm mc ms n := by
  have ok : ∀ w ∈ va_wsS own index y ws, w.before args s = true := fun w h => ht w (hT w h).1
  have hG : GoodIn Ts ws := fun w h => hT w (by unfold va_wsS; exact List.mem_append_right _ h)
  have hc : Cond.codeWith y bytes maxL ret hh ∈ ws := by rw [hw]; exact List.mem_cons_self
  refine ⟨⟨hrc, hrs, hR.1, hR.2, pay_in ht hG, hc⟩, ht _ (hG _ hc).1, ok _ (by simp [va_wsS]), ⟨hd.1, hd.2.1⟩, fun sig h => ?_, ok _ (by simp [va_wsS]), ok _ (by simp [va_wsS])⟩
  have h2 := hd.2.2
  rw [h] at h2
  exact (Option.some.inj h2).symm
theorem vx_callSW (X : Stand p l e R s m args below meth c T locs cells slots) (hexec : p.tables.exec = Jvm.exec) {own : String} {index : Nat} {y : MethodName} {bytes : ByteArray} {maxL : Nat} {ret : Option FieldType} {hh : List (Nat × Nat × Nat × Nat)}
    (hown : s.vm.findClass own = some m.cls) (hlink : (Cond.methodLink own index y).before args s = true) (hstat : (Cond.static y).before args s = true) (hinit : (Cond.initialized y.cls).before args s = true)
    (hcode : (Cond.codeWith y bytes maxL ret hh).before args s = true) (hy : y.cls ≠ "java/lang/invoke/MethodHandle" ∧ y.cls ≠ "java/lang/invoke/VarHandle")
    {W9 : Nat} {Pre : Pt → Array Value → Prop} {Post : Pt → Array Value → Option Value → Pt → Prop} (hK : Back l R p e below s args y 3 W9 Pre Post)
    {g : JFrame} (hg : g.method = m) (hsize : g.locals.size = c.maxLocals) {argsL rest : List Value} (hlen : ∀ sig, parseMethodDescriptor y.desc = some sig → argsL.length = sig.parameters.length)
    (hstack : g.stack = argsL.reverse ++ rest) (hW : 2 * g.monitorRoom + (rest.map fun v => v.category).sum ≤ W9) (hdg : decode c.code g.pc = .ok (.invokestatic index, 3))
    (hpre : ∀ vm₁, s.WarmedH vm₁ → Pre ⟨T.setVm vm₁, locs, cells, slots⟩ argsL.toArray) :
    ∃ (v : Option Value) (vm₁ : Vm) (B : Pt), s.WarmedH vm₁ ∧ Stand p l e R s m args below meth c B.U B.locs B.cells B.slots ∧ Post ⟨T.setVm vm₁, locs, cells, slots⟩ argsL.toArray v B ∧
      ∀ target, Steps p.tables e below (B.U.setTop { g with pc := g.pc + 3, stack := v.toList ++ rest }) target → Steps p.tables e below (T.setTop g) target := by
  obtain ⟨mk, methM, cM, hnamed, hmethM, -, -, -, -, -, -, hsigM⟩ := Cond.codeWith_spec hcode
  have hstatic : methM.isStatic = true := Cond.static_spec hnamed hmethM hstat
  obtain ⟨kP, hkP, -⟩ := className_of_methodNamed hnamed
  have hinitP : kP.init = .initialized := Cond.initialized_spec (findClass_of_methodNamed hnamed) hkP hinit
  obtain ⟨vm₁, X₁, hstep₁⟩ := X.invokestatic hexec hown hlink hnamed hmethM hstatic hkP hinitP hy (g := g) hg (argsL := argsL) (rest := rest) (hlen _ hsigM) hstack hdg
  obtain ⟨v, B, X', hpost, hsteps⟩ := hK m meth c ⟨T.setVm vm₁, locs, cells, slots⟩ { g with stack := rest } (.invokestatic index) mk argsL.toArray X₁ hg hsize hdg hW (X₁.named hnamed) (hpre vm₁ X₁.warmed)
  exact ⟨v, vm₁, B, X₁.warmed, X', hpost, fun target h => hstep₁ _ fun acts => by rw [doInvoke_state]; exact hsteps.trans h⟩
theorem vx_runSW {y : MethodName} {bytes cc : ByteArray} {maxL nL mc ms n index : Nat} {ret : Option FieldType} {hh : List (Nat × Nat × Nat × Nat)} {ws : List Cond} {rm : Room} {Pc : Array Value → State → Prop} {Qc : Array Value → State → Outcome → State → Prop} {free : Addr → Prop} {Ts : List Cond} {own : String} {As rest : List Value} {g : JFrame}
    (S : CallFix p m c cc nL s args Ts own) (hM : Met l y ws rm Pc Qc mc ms free) (cw : vx_CSW R s args own index y bytes maxL ret hh ws rm mc ms n) (hp : PreS s H Pc As)
    (hg : g.method = m) (hn : As.length = n) (hsize : g.locals.size = nL) (hstack : g.stack = As.reverse ++ rest) (hW : 2 * g.monitorRoom + (rest.map fun v => v.category).sum ≤ 8) (hdg : decode cc g.pc = .ok (.invokestatic index, 3)) (hf : cells + mc ≤ R.cells ∧ slots + ms ≤ R.slots) :
    va_Run p l e R s m args below meth c H locs cells slots mc ms g rest (Qc As.toArray) (free) := by
  obtain ⟨⟨hrc, hrs, hfr, hlo, hws, hcw⟩, hcode, hini, hy, hlen, hl, hstt⟩ := cw
  have hK : Back l R p e below s args y 3 8 (PreOf R mc ms Pc) (PostOf Qc mc ms free) := va_backW (hh := hh) (bytes := bytes) (maxL := maxL) (ret := ret) hM hp.1 hrc hrs hfr hlo hws hcw (fun a' U hW => word_at hW (Or.inl (by first | rfl | simp [Cond.onTables, Cond.keeps, Cond.steady])) hini)
  obtain ⟨hx, hb, hml, ho, -⟩ := S
  intro T hT X
  obtain ⟨v, vm₁, ⟨U', l2, c2, s2⟩, hW₁, X', ⟨g', mk, t, L, e1, e2, hq, h1, hL, h2, h3⟩, st⟩ := vx_callSW X hx (hh := hh) (bytes := bytes) (maxL := maxL) (ret := ret) ho hl hstt hini hcode hy hK hg (hsize.trans hml.symm) (argsL := As) (rest := rest) (fun sig h => hn.trans (hlen sig h)) hstack hW (by rw [hb]; exact hdg)
    (fun vm₁ hW₁ => ⟨hf.1, hf.2, hp.2 (T.setVm vm₁) hT hW₁⟩)
  dsimp only [Pt.U, Pt.locs, Pt.cells, Pt.slots] at X' e1 e2 h1 h2 h3 st
  subst h1; subst h2; subst h3
  exact ⟨v, (T.setVm vm₁).calling g' mk As.toArray, t, U', L, hT, X', hL, e1, e2, hq, st⟩
/-- not caught here, past rows that name other classes: it goes on to the caller -/
theorem vx_outP {p : Program} {l : Launch} {e : Env} {R : Room} {s : State} {m : MethodId} {args : Array Value} {below : List Frame} {meth : Method} {c : Code} {H : Heap} {locs : List Loc} {cells slots : Nat} {free : Addr → Prop} {ls : Array Slot} {rest : List Value} {Qc : Array Value → State → Outcome → State → Prop} {XC : String → State → State → Prop}
    {pc : Nat} {own E : String} {ce : Cell} {q : Addr} {mc ms : Nat} (hown : s.vm.findClass own = some m.cls) (hlocks : meth.locks = false)
    (hpass : ∀ z ∈ c.exceptionTable.toList, covers z pc = false ∨ (z.catchType ≠ 0 ∧ ∃ nm : String, (Cond.classLink own z.catchType nm).before args s = true ∧ va_Nc E nm s)) (hcell : H[q]? = some ce) (hv : ce.vm = .none) (hcl : s.vm.findClass E = some ce.cls)
    (hx : ∀ t : State, t.heap = H → s.vm.Alike t.vm → XC E s t) (hf : ∀ z ∈ locs, free z.base) (hc : cells ≤ mc) (hs : slots ≤ ms) :
    vx_W p l e R s m args below meth c H locs cells slots (vx_MQ below Qc XC args s mc ms free) (F0 m pc ls rest) q := by
  intro T hT X
  have hpl : e.platform.magicAccessors = ({} : Platform).magicAccessors := by rw [X.admits.platform]
  obtain ⟨vm', hW', X', st⟩ := X.outThrough hlocks q (g := F0 m pc ls rest) rfl rfl rfl (cell := ce) (by rw [hT]; exact hcell) (by rw [hv]; rfl)
    (by obtain ⟨k9, h9, -⟩ := Vm.findClass_spec hcl; exact ⟨k9, h9⟩) (fun z hz => by
      rcases hpass z hz with h | ⟨hz0, nm, hl1, hn1⟩
      · exact Or.inl h
      · obtain ⟨c6, hc6, hcl6⟩ := Cond.classLink_spec hown hl1 e.platform hpl
        obtain ⟨a8, b8, h1, h2, h3⟩ := hn1
        cases Option.some.inj (h1.symm.trans hcl)
        cases Option.some.inj (h2.symm.trans hc6)
        exact Or.inr ⟨hz0, _, hcl6, h3⟩)
  obtain ⟨g₀, hfr⟩ := X'.frames_eq
  have hcell9 : ((T.setVm vm').setFrames (.throwing q :: below)).heap[q]? = some ce := by
    show T.heap[q]? = some ce
    rw [hT]; exact hcell
  have hend : Ended ((T.setVm vm').setFrames (.throwing q :: below)) below (.threw q) := State.frames_setFrames _ (State.cur_lt_of_frames hfr)
  refine ⟨(T.setVm vm').setFrames (.throwing q :: below), ?_, .threw q, X'.here.running, hend, Or.inr ⟨q, rfl, E, ce, locs, hx _ hT (X'.ends _).1.alike, hcell9, hv, hcl, (X'.ends _).1, (X'.ends _).2.mono hc hs, hf⟩⟩
  rw [X.pushThrowing_eq]
  exact st
/-- a thing of a world lies in the heap -/
theorem vx_lt {D : va_G} {cl : List vw_C} {ws : va_W} {H1 : Heap} (h : va_P D cl ws H1) {k : Nat} {q : Nat × va_E} (hk : ws[k]? = some q) : q.1 < H1.size := (h k q hk).lt
end VXS
/-! ===== END ===== -/
/-! ===== BEGIN methods with a table of their own: called by a name, returning or throwing ===== -/
section VXH
/-! vx_backW, vx_callVX, vx_callSX, vx_callVW, vx_runVW, vx_runVX, vx_runSX, vx_ofWH follow the same proofs as their sisters above (Free/Laws.lean, Shelf42/LK1.lean); vx_outP calls Shelf42/NT130.lean (outThrough). -/
section
variable {l : Launch} {R : Room} {p : Program} {e : Env} {below : List Frame} {s : State} {sargs : Array Value} {y : MethodName} {len W9 : Nat}
theorem vx_backW {ws : List Cond} {rm : Room} {Pc : Array Value → State → Prop} {Qc : Array Value → State → Outcome → State → Prop} {XC : String → State → State → Prop} {mc ms : Nat} {free : Addr → Prop} {bytes : ByteArray} {maxL : Nat} {ret : Option FieldType} {hh : List (Nat × Nat × Nat × Nat)}
    (hM : vx_Met l y ws rm Pc Qc XC mc ms free) (hblind : FrameBlind Pc) (hrc : rm.cells = mc) (hrs : rm.slots = ms)
    (hframes : rm.frames + 1 ≤ R.frames) (hlocals : W9 + (maxL + 11) + rm.locals ≤ R.locals)
    (hws : ∀ w ∈ ws, ∀ a' U, s.WarmedH U.vm → w.before a' U = true) (hcode : Cond.codeWith y bytes maxL ret hh ∈ ws) (hinit : ∀ a' U, s.WarmedH U.vm → (Cond.initialized y.cls).before a' U = true) :
    vx_Back l R p e below s sargs y len W9 (PreOf R mc ms Pc) (PostOf Qc mc ms free) (vx_Post XC mc ms free) := by
  intro m meth c A g ig mk a X hg hsize hdg hW hn hp
  have h1 : (headSpec ws rm).pre.before a A.U = true := atoms_intro fun w hw => hws w hw _ _ X.warmed
  have h2 : (Cond.codeWith y bytes maxL ret hh).before a A.U = true := hws _ hcode _ _ X.warmed
  have h3 : (Cond.initialized y.cls).before a A.U = true := hinit _ _ X.warmed
  have h4 : A.cells + (headSpec ws rm).room.cells ≤ R.cells := by rw [show (headSpec ws rm).room.cells = mc from hrc]; exact hp.1
  have h5 : A.slots + (headSpec ws rm).room.slots ≤ R.slots := by rw [show (headSpec ws rm).room.slots = ms from hrs]; exact hp.2.1
  have hPc : Pc a (A.U.calling g mk a) := hblind _ _ _ _ hp.2.2
  obtain ⟨U, Ls, c0, s0⟩ := A
  dsimp only [Pt.U, Pt.locs, Pt.cells, Pt.slots] at h1 h2 h3 h4 h5 X hn hPc ⊢
  obtain ⟨m9, methY, cY, hn9, hmY, hcY, -, hlY, -⟩ := Cond.codeWith_spec h2
  cases Option.some.inj (hn9.symm.trans hn)
  obtain ⟨kY, hkY, -⟩ := className_of_methodNamed hn
  have hinitY : kY.init = .initialized := Cond.initialized_spec (findClass_of_methodNamed hn) hkY h3
  have h : At U g.method c below := by rw [hg]; exact X.here
  have hlocals9 : W9 + (maxL + 11) + (headSpec ws rm).room.locals ≤ R.locals := hlocals
  have happ : (headSpec ws rm).appliesLoose y e.platform (U.calling g mk a) = true :=
    Spec.appliesLoose_calling (g := g) h hdg hn hkY hinitY
      (X.room_calling (g := g) (R' := (headSpec ws rm).room) hsize hmY hcY hframes (by rw [hlY]; omega) h4 h5) h1
  obtain ⟨mid, hmid⟩ := h.above
  have hfr : (U.setTop g).frames = (.java g :: mid) ++ below := by rw [State.frames_setTop' g h.top, hmid]; rfl
  obtain ⟨o, s₂, hsteps, -, hend, hq⟩ := Steps.callFree hM p X.admits X.cas X.clock (acts := []) hfr happ hPc trivial
  have hq' : vx_Q Qc XC mc ms free a (U.calling g mk a) o s₂ := hq
  rw [State.frames_setTop' g h.top] at hend
  obtain ⟨g₀, hg0⟩ := Option.isSome_iff_exists.mp h.top
  obtain ⟨r, hr⟩ := State.topJava?_eq_some.mp hg0
  have hr' : (({ U with heap := s₂.heap, slotsUsed := s₂.slotsUsed } : State).setVm s₂.vm).frames = .java g₀ :: r := hr
  rcases hq' with ⟨hqc, L, hfe, hL⟩ | ⟨q, rfl, E, ce, L, hx, hce, hcv, hcl, hW₂, hsm, hL⟩
  · obtain ⟨⟨v, rfl⟩, hW₂, e2, q2, q3, q4, q5, q6⟩ := id hfe
    have e3 : s₂ = ({ (U.calling g mk a).setFrames s₂.frames with heap := s₂.heap, slotsUsed := s₂.slotsUsed } : State).setVm s₂.vm := by
      have : s₂ = ({ s₂ with vm := (U.calling g mk a).vm } : State).setVm s₂.vm := rfl
      rw [e2] at this
      exact this
    obtain ⟨c₂, i₂, len₂, hc₂, hd₂, hf₂⟩ := hend
    have hW' : U.WarmedH s₂.vm := hW₂
    have hcc : c₂ = c := by
      have h1 : s₂.code? g.method = U.code? g.method := by
        rw [State.code?_eq, State.code?_eq, hW'.alike.method?]
      exact Option.some.inj (hc₂.symm.trans (h1.trans h.code))
    subst hcc
    have hlen : len₂ = len := by rw [hdg] at hd₂; cases hd₂; rfl
    subst hlen
    have hs₂ : s₂ = (({ U with heap := s₂.heap, slotsUsed := s₂.slotsUsed } : State).setVm s₂.vm).setTop { g with pc := g.pc + len₂, stack := v.toList ++ g.stack } := by
      refine e3.trans ?_
      rw [hf₂, State.calling_eq h.top, State.setFrames_setFrames, State.setTop_of_frames _ hr', hr]
      rfl
    have hsame : U.sameButNew ({ U with heap := s₂.heap, slotsUsed := s₂.slotsUsed } : State) L mc ms := by
      refine ⟨?_, q2, q3, q4, q5, q6⟩
      obtain ⟨t, ht, -⟩ := State.frames_cons hr
      show ({ U with heap := s₂.heap, slotsUsed := s₂.slotsUsed } : State) = { U.setFrames U.frames with heap := s₂.heap, slotsUsed := s₂.slotsUsed }
      rw [State.setFrames_self ht]
    subst hg
    refine Or.inl ⟨v, ⟨(({ U with heap := s₂.heap, slotsUsed := s₂.slotsUsed } : State).setVm s₂.vm), Ls ++ L, c0 + mc, s0 + ms⟩,
      ⟨X.admits, X.cas, X.clock, X.frames, X.room, X.hears, X.method, X.code, (X.here.setHeapUsed s₂.heap s₂.slotsUsed).setVm hW'.alike, X.tail, State.WarmedH.trans X.warmed hW', X.limits, X.bytes, X.same.trans (hsame.setVm s.vm)⟩,
      ⟨g, mk, s₂, L, rfl, rfl, hqc, rfl, hL, rfl, rfl⟩, ?_⟩
    show Steps p.tables e below _ ((({ U with heap := s₂.heap, slotsUsed := s₂.slotsUsed } : State).setVm s₂.vm).setTop { g with pc := g.pc + len₂, stack := v.toList ++ g.stack })
    rw [← hs₂]
    exact hsteps
  · obtain ⟨e2, q2, q3, q4, q5, q6⟩ := id hsm
    have e3 : s₂ = ({ (U.calling g mk a).setFrames s₂.frames with heap := s₂.heap, slotsUsed := s₂.slotsUsed } : State).setVm s₂.vm := by
      have : s₂ = ({ s₂ with vm := (U.calling g mk a).vm } : State).setVm s₂.vm := rfl
      rw [e2] at this
      exact this
    have hf₂ : s₂.frames = .throwing q :: .java g :: U.frames.tail := hend
    have hW' : U.WarmedH s₂.vm := hW₂
    have hs₂ : s₂ = ((({ U with heap := s₂.heap, slotsUsed := s₂.slotsUsed } : State).setVm s₂.vm).setTop g).pushFrame (.throwing q) := by
      refine e3.trans ?_
      rw [hf₂, State.calling_eq h.top, State.setFrames_setFrames, State.pushFrame, State.frames_setTop _ hr', State.setTop_of_frames _ hr', State.setFrames_setFrames, hr]
      rfl
    have hsame : U.sameButNew ({ U with heap := s₂.heap, slotsUsed := s₂.slotsUsed } : State) L mc ms := by
      refine ⟨?_, q2, q3, q4, q5, q6⟩
      obtain ⟨t, ht, -⟩ := State.frames_cons hr
      show ({ U with heap := s₂.heap, slotsUsed := s₂.slotsUsed } : State) = { U.setFrames U.frames with heap := s₂.heap, slotsUsed := s₂.slotsUsed }
      rw [State.setFrames_self ht]
    subst hg
    refine Or.inr ⟨q, ⟨(({ U with heap := s₂.heap, slotsUsed := s₂.slotsUsed } : State).setVm s₂.vm), Ls ++ L, c0 + mc, s0 + ms⟩,
      ⟨X.admits, X.cas, X.clock, X.frames, X.room, X.hears, X.method, X.code, (X.here.setHeapUsed s₂.heap s₂.slotsUsed).setVm hW'.alike, X.tail, State.WarmedH.trans X.warmed hW', X.limits, X.bytes, X.same.trans (hsame.setVm s.vm)⟩,
      ⟨g, mk, s₂, L, E, ce, rfl, rfl, hx, hce, hcv, hcl, rfl, hL, rfl, rfl⟩, ?_⟩
    show Steps p.tables e below _ (((({ U with heap := s₂.heap, slotsUsed := s₂.slotsUsed } : State).setVm s₂.vm).setTop g).pushFrame (.throwing q))
    rw [← hs₂]
    exact hsteps
end
variable {p : Program} {l : Launch} {e : Env} {R : Room} {s : State} {m : MethodId} {args : Array Value} {below : List Frame} {meth : Method} {c : Code} {T : State} {H : Heap} {locs : List Loc} {cells slots : Nat}
theorem vx_callVX (X : Stand p l e R s m args below meth c T locs cells slots) (hexec : p.tables.exec = Jvm.exec) {own C : String} {index : Nat} {y : MethodName} {bytes : ByteArray} {maxL : Nat} {ret : Option FieldType} {hh : List (Nat × Nat × Nat × Nat)}
    (hown : s.vm.findClass own = some m.cls) (hlink : (Cond.methodLink own index y).before args s = true) (hinst : (Cond.instanceMethod y).before args s = true) (hsel : (Cond.selects C y y).before args s = true)
    (hcode : (Cond.codeWith y bytes maxL ret hh).before args s = true) (hy : y.cls ≠ "java/lang/invoke/MethodHandle" ∧ y.cls ≠ "java/lang/invoke/VarHandle")
    {W9 : Nat} {Pre : Pt → Array Value → Prop} {Post : Pt → Array Value → Option Value → Pt → Prop} {PostX : Pt → Array Value → Addr → Pt → Prop} (hK : vx_Back l R p e below s args y 3 W9 Pre Post PostX)
    {b : Addr} {cellB : Cell} (hcell : T.heap[b]? = some cellB) (hobj : cellB.vm.isStatics = false) (hcls : s.vm.findClass C = some cellB.cls)
    {g : JFrame} (hg : g.method = m) (hsize : g.locals.size = c.maxLocals) {argsL rest : List Value} (hlen : ∀ sig, parseMethodDescriptor y.desc = some sig → argsL.length = sig.parameters.length)
    (hstack : g.stack = argsL.reverse ++ .ref b :: rest) (hW : 2 * g.monitorRoom + (rest.map fun v => v.category).sum ≤ W9) (hdg : decode c.code g.pc = .ok (.invokevirtual index, 3))
    (hpre : ∀ vm₁, s.WarmedH vm₁ → Pre ⟨T.setVm vm₁, locs, cells, slots⟩ (Value.ref b :: argsL).toArray) :
    (∃ (v : Option Value) (vm₁ : Vm) (B : Pt), s.WarmedH vm₁ ∧ Stand p l e R s m args below meth c B.U B.locs B.cells B.slots ∧ Post ⟨T.setVm vm₁, locs, cells, slots⟩ (Value.ref b :: argsL).toArray v B ∧
      ∀ target, Steps p.tables e below (B.U.setTop { g with pc := g.pc + 3, stack := v.toList ++ rest }) target → Steps p.tables e below (T.setTop g) target) ∨
    (∃ (q : Addr) (vm₁ : Vm) (B : Pt), s.WarmedH vm₁ ∧ Stand p l e R s m args below meth c B.U B.locs B.cells B.slots ∧ PostX ⟨T.setVm vm₁, locs, cells, slots⟩ (Value.ref b :: argsL).toArray q B ∧
      Steps p.tables e below (T.setTop g) ((B.U.setTop { g with stack := rest }).pushFrame (.throwing q))) := by
  obtain ⟨mk, methM, hnamed, hmethM, hstM, habM⟩ := Cond.instanceMethod_spec hinst
  obtain ⟨m8, methM', cM, hn8, hmethM', -, -, -, -, -, -, hsigM⟩ := Cond.codeWith_spec hcode
  cases Option.some.inj (hn8.symm.trans hnamed)
  cases hmethM.symm.trans hmethM'
  obtain ⟨c2, r2, m2, q1, q2, q3, q4, kP, hkP, hkPi⟩ := Cond.selects_spec hsel
  cases hcls.symm.trans q1
  cases (State.methodFound?_of_named hnamed hy).symm.trans q2
  cases hnamed.symm.trans q3
  have hselP : selectMethod e.platform s.vm cellB.cls mk = .method mk := by rw [Launch.admits_selectMethod X.admits]; exact q4
  obtain ⟨vm₁, X₁, hstep₁⟩ := X.invokevirtual hexec hown hlink hnamed hmethM hstM hkP hkPi hy (a := b) (cell := cellB) hcell
    (fun z h => by rw [h] at hobj; cases hobj) hselP hmethM habM hkP hkPi (g := g) hg (argsL := argsL) (rest := rest) (hlen _ hsigM) hstack hdg
  rcases hK m meth c ⟨T.setVm vm₁, locs, cells, slots⟩ { g with stack := rest } (.invokevirtual index) mk (Value.ref b :: argsL).toArray X₁ hg hsize hdg hW (X₁.named hnamed) (hpre vm₁ X₁.warmed) with ⟨v, B, X', hpost, hsteps⟩ | ⟨q, B, X', hpost, hsteps⟩
  · exact Or.inl ⟨v, vm₁, B, X₁.warmed, X', hpost, fun target h => hstep₁ _ fun acts => by rw [doInvoke_state]; exact hsteps.trans h⟩
  · exact Or.inr ⟨q, vm₁, B, X₁.warmed, X', hpost, hstep₁ _ fun acts => by rw [doInvoke_state]; exact hsteps⟩
theorem vx_callSX (X : Stand p l e R s m args below meth c T locs cells slots) (hexec : p.tables.exec = Jvm.exec) {own : String} {index : Nat} {y : MethodName} {bytes : ByteArray} {maxL : Nat} {ret : Option FieldType} {hh : List (Nat × Nat × Nat × Nat)}
    (hown : s.vm.findClass own = some m.cls) (hlink : (Cond.methodLink own index y).before args s = true) (hstat : (Cond.static y).before args s = true) (hinit : (Cond.initialized y.cls).before args s = true)
    (hcode : (Cond.codeWith y bytes maxL ret hh).before args s = true) (hy : y.cls ≠ "java/lang/invoke/MethodHandle" ∧ y.cls ≠ "java/lang/invoke/VarHandle")
    {W9 : Nat} {Pre : Pt → Array Value → Prop} {Post : Pt → Array Value → Option Value → Pt → Prop} {PostX : Pt → Array Value → Addr → Pt → Prop} (hK : vx_Back l R p e below s args y 3 W9 Pre Post PostX)
    {g : JFrame} (hg : g.method = m) (hsize : g.locals.size = c.maxLocals) {argsL rest : List Value} (hlen : ∀ sig, parseMethodDescriptor y.desc = some sig → argsL.length = sig.parameters.length)
    (hstack : g.stack = argsL.reverse ++ rest) (hW : 2 * g.monitorRoom + (rest.map fun v => v.category).sum ≤ W9) (hdg : decode c.code g.pc = .ok (.invokestatic index, 3))
    (hpre : ∀ vm₁, s.WarmedH vm₁ → Pre ⟨T.setVm vm₁, locs, cells, slots⟩ argsL.toArray) :
    (∃ (v : Option Value) (vm₁ : Vm) (B : Pt), s.WarmedH vm₁ ∧ Stand p l e R s m args below meth c B.U B.locs B.cells B.slots ∧ Post ⟨T.setVm vm₁, locs, cells, slots⟩ argsL.toArray v B ∧
      ∀ target, Steps p.tables e below (B.U.setTop { g with pc := g.pc + 3, stack := v.toList ++ rest }) target → Steps p.tables e below (T.setTop g) target) ∨
    (∃ (q : Addr) (vm₁ : Vm) (B : Pt), s.WarmedH vm₁ ∧ Stand p l e R s m args below meth c B.U B.locs B.cells B.slots ∧ PostX ⟨T.setVm vm₁, locs, cells, slots⟩ argsL.toArray q B ∧
      Steps p.tables e below (T.setTop g) ((B.U.setTop { g with stack := rest }).pushFrame (.throwing q))) := by
  obtain ⟨mk, methM, cM, hnamed, hmethM, -, -, -, -, -, -, hsigM⟩ := Cond.codeWith_spec hcode
  have hstatic : methM.isStatic = true := Cond.static_spec hnamed hmethM hstat
  obtain ⟨kP, hkP, -⟩ := className_of_methodNamed hnamed
  have hinitP : kP.init = .initialized := Cond.initialized_spec (findClass_of_methodNamed hnamed) hkP hinit
  obtain ⟨vm₁, X₁, hstep₁⟩ := X.invokestatic hexec hown hlink hnamed hmethM hstatic hkP hinitP hy (g := g) hg (argsL := argsL) (rest := rest) (hlen _ hsigM) hstack hdg
  rcases hK m meth c ⟨T.setVm vm₁, locs, cells, slots⟩ { g with stack := rest } (.invokestatic index) mk argsL.toArray X₁ hg hsize hdg hW (X₁.named hnamed) (hpre vm₁ X₁.warmed) with ⟨v, B, X', hpost, hsteps⟩ | ⟨q, B, X', hpost, hsteps⟩
  · exact Or.inl ⟨v, vm₁, B, X₁.warmed, X', hpost, fun target h => hstep₁ _ fun acts => by rw [doInvoke_state]; exact hsteps.trans h⟩
  · exact Or.inr ⟨q, vm₁, B, X₁.warmed, X', hpost, hstep₁ _ fun acts => by rw [doInvoke_state]; exact hsteps⟩
theorem vx_callVW (X : Stand p l e R s m args below meth c T locs cells slots) (hexec : p.tables.exec = Jvm.exec) {own C : String} {index : Nat} {y : MethodName} {bytes : ByteArray} {maxL : Nat} {ret : Option FieldType} {hh : List (Nat × Nat × Nat × Nat)}
    (hown : s.vm.findClass own = some m.cls) (hlink : (Cond.methodLink own index y).before args s = true) (hinst : (Cond.instanceMethod y).before args s = true) (hsel : (Cond.selects C y y).before args s = true)
    (hcode : (Cond.codeWith y bytes maxL ret hh).before args s = true) (hy : y.cls ≠ "java/lang/invoke/MethodHandle" ∧ y.cls ≠ "java/lang/invoke/VarHandle")
    {W9 : Nat} {Pre : Pt → Array Value → Prop} {Post : Pt → Array Value → Option Value → Pt → Prop} (hK : Back l R p e below s args y 3 W9 Pre Post)
    {b : Addr} {cellB : Cell} (hcell : T.heap[b]? = some cellB) (hobj : cellB.vm.isStatics = false) (hcls : s.vm.findClass C = some cellB.cls)
    {g : JFrame} (hg : g.method = m) (hsize : g.locals.size = c.maxLocals) {argsL rest : List Value} (hlen : ∀ sig, parseMethodDescriptor y.desc = some sig → argsL.length = sig.parameters.length)
    (hstack : g.stack = argsL.reverse ++ .ref b :: rest) (hW : 2 * g.monitorRoom + (rest.map fun v => v.category).sum ≤ W9) (hdg : decode c.code g.pc = .ok (.invokevirtual index, 3))
    (hpre : ∀ vm₁, s.WarmedH vm₁ → Pre ⟨T.setVm vm₁, locs, cells, slots⟩ (Value.ref b :: argsL).toArray) :
    ∃ (v : Option Value) (vm₁ : Vm) (B : Pt), s.WarmedH vm₁ ∧ Stand p l e R s m args below meth c B.U B.locs B.cells B.slots ∧ Post ⟨T.setVm vm₁, locs, cells, slots⟩ (Value.ref b :: argsL).toArray v B ∧
      ∀ target, Steps p.tables e below (B.U.setTop { g with pc := g.pc + 3, stack := v.toList ++ rest }) target → Steps p.tables e below (T.setTop g) target := by
  obtain ⟨mk, methM, hnamed, hmethM, hstM, habM⟩ := Cond.instanceMethod_spec hinst
  obtain ⟨m8, methM', cM, hn8, hmethM', -, -, -, -, -, -, hsigM⟩ := Cond.codeWith_spec hcode
  cases Option.some.inj (hn8.symm.trans hnamed)
  cases hmethM.symm.trans hmethM'
  obtain ⟨c2, r2, m2, q1, q2, q3, q4, kP, hkP, hkPi⟩ := Cond.selects_spec hsel
  cases hcls.symm.trans q1
  cases (State.methodFound?_of_named hnamed hy).symm.trans q2
  cases hnamed.symm.trans q3
  have hselP : selectMethod e.platform s.vm cellB.cls mk = .method mk := by rw [Launch.admits_selectMethod X.admits]; exact q4
  obtain ⟨vm₁, X₁, hstep₁⟩ := X.invokevirtual hexec hown hlink hnamed hmethM hstM hkP hkPi hy (a := b) (cell := cellB) hcell
    (fun z h => by rw [h] at hobj; cases hobj) hselP hmethM habM hkP hkPi (g := g) hg (argsL := argsL) (rest := rest) (hlen _ hsigM) hstack hdg
  obtain ⟨v, B, X', hpost, hsteps⟩ := hK m meth c ⟨T.setVm vm₁, locs, cells, slots⟩ { g with stack := rest } (.invokevirtual index) mk (Value.ref b :: argsL).toArray X₁ hg hsize hdg hW (X₁.named hnamed) (hpre vm₁ X₁.warmed)
  exact ⟨v, vm₁, B, X₁.warmed, X', hpost, fun target h => hstep₁ _ fun acts => by rw [doInvoke_state]; exact hsteps.trans h⟩
abbrev vx_CVW (R : Room) (s : State) (args : Array Value) (own C : String) (index : Nat) (y : MethodName) (bytes : ByteArray) (maxL : Nat) (ret : Option FieldType) (hh : List (Nat × Nat × Nat × Nat)) (ws : List Cond) (rm : Room) (mc ms n : Nat) : Prop :=
  (rm.cells = mc ∧ rm.slots = ms ∧ rm.frames + 1 ≤ R.frames ∧ 8 + (maxL + 11) + rm.locals ≤ R.locals ∧ (∀ w ∈ ws, ∀ (a' : Array Value) (U : State), s.WarmedH U.vm → w.before a' U = true) ∧ Cond.codeWith y bytes maxL ret hh ∈ ws) ∧
  (Cond.codeWith y bytes maxL ret hh).before args s = true ∧ (Cond.initialized y.cls).before args s = true ∧ (y.cls ≠ "java/lang/invoke/MethodHandle" ∧ y.cls ≠ "java/lang/invoke/VarHandle") ∧
  (∀ sig, parseMethodDescriptor y.desc = some sig → n = sig.parameters.length) ∧ (Cond.methodLink own index y).before args s = true ∧ (Cond.instanceMethod y).before args s = true ∧ (Cond.selects C y y).before args s = true
theorem vx_cwVW {own C : String} {index maxL mc ms : Nat} {y : MethodName} {bytes : ByteArray} {ret : Option FieldType} {hh : List (Nat × Nat × Nat × Nat)} {Ts ws ws' : List Cond} {rm : Room} (n : Nat) (ht : ∀ w ∈ Ts, w.before args s = true) (hT : GoodIn Ts (wsV own index C y ws)) (hw : ws = Cond.codeWith y bytes maxL ret hh :: ws') (hrc : rm.cells = mc) (hrs : rm.slots = ms)
    (hd : y.cls = C ∧ y.cls ≠ "java/lang/invoke/MethodHandle" ∧ y.cls ≠ "java/lang/invoke/VarHandle" ∧ (parseMethodDescriptor y.desc).map (fun d => d.parameters.length) = some n) (hR : rm.frames + 1 ≤ R.frames ∧ 8 + (maxL + 11) + rm.locals ≤ R.locals) :
    vx_CVW R s args own C index y bytes maxL ret hh ws rm mc ms n := by
  obtain ⟨hC, hd⟩ := hd
  subst hC
  have ok : ∀ w ∈ wsV own index y.cls y ws, w.before args s = true := fun w h => ht w (hT w h).1
  have hG : GoodIn Ts ws := fun w h => hT w (by unfold wsV; exact List.mem_append_right _ h)
  have hc : Cond.codeWith y bytes maxL ret hh ∈ ws := by rw [hw]; exact List.mem_cons_self
  refine ⟨⟨hrc, hrs, hR.1, hR.2, pay_in ht hG, hc⟩, ht _ (hG _ hc).1, ok _ (by simp [wsV]), ⟨hd.1, hd.2.1⟩, fun sig h => ?_, ok _ (by simp [wsV]), ok _ (by simp [wsV]), ok _ (by simp [wsV])⟩
  have h2 := hd.2.2
  rw [h] at h2
  exact (Option.some.inj h2).symm
theorem vx_runVW {y : MethodName} {bytes cc : ByteArray} {maxL nL mc ms n index : Nat} {ret : Option FieldType} {hh : List (Nat × Nat × Nat × Nat)} {ws : List Cond} {rm : Room} {Pc : Array Value → State → Prop} {Qc : Array Value → State → Outcome → State → Prop} {free : Addr → Prop} {Ts : List Cond} {own C : String} {b : Addr} {As rest : List Value} {g : JFrame}
    (S : CallFix p m c cc nL s args Ts own) (hM : Met l y ws rm Pc Qc mc ms free) (cw : vx_CVW R s args own C index y bytes maxL ret hh ws rm mc ms n) (hp : PreV s H C b Pc As)
    (hg : g.method = m) (hn : As.length = n) (hsize : g.locals.size = nL) (hstack : g.stack = As.reverse ++ .ref b :: rest) (hW : 2 * g.monitorRoom + (rest.map fun v => v.category).sum ≤ 8) (hdg : decode cc g.pc = .ok (.invokevirtual index, 3)) (hf : cells + mc ≤ R.cells ∧ slots + ms ≤ R.slots) :
    va_Run p l e R s m args below meth c H locs cells slots mc ms g rest (Qc (Value.ref b :: As).toArray) free := by
  obtain ⟨⟨hrc, hrs, hfr, hlo, hws, hcw⟩, hcode, hini, hy, hlen, hl, hin, hse⟩ := cw
  have hK : Back l R p e below s args y 3 8 (PreOf R mc ms Pc) (PostOf Qc mc ms free) := va_backW (hh := hh) (bytes := bytes) (maxL := maxL) (ret := ret) hM hp.1 hrc hrs hfr hlo hws hcw (fun a' U hW => word_at hW (Or.inl (by first | rfl | simp [Cond.onTables, Cond.keeps, Cond.steady])) hini)
  obtain ⟨hx, hb, hml, ho, -⟩ := S
  obtain ⟨-, ⟨cellB, hcB, hoB, hclB⟩, hPc⟩ := hp
  intro T hT X
  obtain ⟨v, vm₁, ⟨U', l2, c2, s2⟩, hW₁, X', ⟨g', mk, t, L, e1, e2, hq, h1, hL, h2, h3⟩, st⟩ := vx_callVW X hx (C := C) (hh := hh) (bytes := bytes) (maxL := maxL) (ret := ret) ho hl hin hse hcode hy hK (by rw [hT]; exact hcB) hoB hclB hg (hsize.trans hml.symm) (argsL := As) (rest := rest) (fun sig h => hn.trans (hlen sig h)) hstack hW (by rw [hb]; exact hdg)
    (fun vm₁ hW₁ => ⟨hf.1, hf.2, hPc (T.setVm vm₁) hT hW₁⟩)
  dsimp only [Pt.U, Pt.locs, Pt.cells, Pt.slots] at X' e1 e2 h1 h2 h3 st
  subst h1; subst h2; subst h3
  exact ⟨v, (T.setVm vm₁).calling g' mk (Value.ref b :: As).toArray, t, U', L, hT, X', hL, e1, e2, hq, st⟩
section
variable {y : MethodName} {bytes cc : ByteArray} {maxL nL mc ms n index : Nat} {ret : Option FieldType} {ws : List Cond} {rm : Room} {Pc : Array Value → State → Prop} {Qc : Array Value → State → Outcome → State → Prop} {XC : String → State → State → Prop} {free : Addr → Prop} {Ts : List Cond} {own C : String} {b : Addr} {As rest : List Value} {g : JFrame}
theorem vx_runVX {hh : List (Nat × Nat × Nat × Nat)} (S : CallFix p m c cc nL s args Ts own) (hM : vx_Met l y ws rm Pc Qc XC mc ms free) (cw : vx_CVW R s args own C index y bytes maxL ret hh ws rm mc ms n) (hp : PreV s H C b Pc As)
    (hg : g.method = m) (hn : As.length = n) (hsize : g.locals.size = nL) (hstack : g.stack = As.reverse ++ .ref b :: rest) (hW : 2 * g.monitorRoom + (rest.map fun v => v.category).sum ≤ 8) (hdg : decode cc g.pc = .ok (.invokevirtual index, 3)) (hf : cells + mc ≤ R.cells ∧ slots + ms ≤ R.slots) :
    vx_Run p l e R s m args below meth c H locs cells slots mc ms g rest (Qc (Value.ref b :: As).toArray) XC free := by
  obtain ⟨⟨hrc, hrs, hfr, hlo, hws, hcw⟩, hcode, hini, hy, hlen, hl, hin, hse⟩ := cw
  have hK : vx_Back l R p e below s args y 3 8 (PreOf R mc ms Pc) (PostOf Qc mc ms free) (vx_Post XC mc ms free) := vx_backW (hh := hh) (bytes := bytes) (maxL := maxL) (ret := ret) hM hp.1 hrc hrs hfr hlo hws hcw (fun a' U hW => word_at hW (Or.inl (by first | rfl | simp [Cond.onTables, Cond.keeps, Cond.steady])) hini)
  obtain ⟨hx, hb, hml, ho, -⟩ := S
  obtain ⟨-, ⟨cellB, hcB, hoB, hclB⟩, hPc⟩ := hp
  intro T hT X
  rcases vx_callVX X hx (C := C) (hh := hh) (bytes := bytes) (maxL := maxL) (ret := ret) ho hl hin hse hcode hy hK (by rw [hT]; exact hcB) hoB hclB hg (hsize.trans hml.symm) (argsL := As) (rest := rest) (fun sig h => hn.trans (hlen sig h)) hstack hW (by rw [hb]; exact hdg)
    (fun vm₁ hW₁ => ⟨hf.1, hf.2, hPc (T.setVm vm₁) hT hW₁⟩) with ⟨v, vm₁, ⟨U', l2, c2, s2⟩, hW₁, X', ⟨g', mk, t, L, e1, e2, hq, h1, hL, h2, h3⟩, st⟩ | ⟨q, vm₁, ⟨U', l2, c2, s2⟩, hW₁, X', ⟨g', mk, t, L, E, ce, e1, e2, hq, hce, hcv, hcl, h1, hL, h2, h3⟩, st⟩
  · dsimp only [Pt.U, Pt.locs, Pt.cells, Pt.slots] at X' e1 e2 h1 h2 h3 st
    subst h1; subst h2; subst h3
    exact Or.inl ⟨v, (T.setVm vm₁).calling g' mk (Value.ref b :: As).toArray, t, U', L, hT, X', hL, e1, e2, hq, st⟩
  · dsimp only [Pt.U, Pt.locs, Pt.cells, Pt.slots] at X' e1 e2 h1 h2 h3 st hcl
    subst h1; subst h2; subst h3
    exact Or.inr ⟨q, (T.setVm vm₁).calling g' mk (Value.ref b :: As).toArray, t, U', L, E, ce, hT, X', hL, e1, e2, hq, hce, hcv, vx_cls hW₁ hcl, st⟩
theorem vx_runSX {hh : List (Nat × Nat × Nat × Nat)} (S : CallFix p m c cc nL s args Ts own) (hM : vx_Met l y ws rm Pc Qc XC mc ms free) (cw : vx_CSW R s args own index y bytes maxL ret hh ws rm mc ms n) (hp : PreS s H Pc As)
    (hg : g.method = m) (hn : As.length = n) (hsize : g.locals.size = nL) (hstack : g.stack = As.reverse ++ rest) (hW : 2 * g.monitorRoom + (rest.map fun v => v.category).sum ≤ 8) (hdg : decode cc g.pc = .ok (.invokestatic index, 3)) (hf : cells + mc ≤ R.cells ∧ slots + ms ≤ R.slots) :
    vx_Run p l e R s m args below meth c H locs cells slots mc ms g rest (Qc As.toArray) XC free := by
  obtain ⟨⟨hrc, hrs, hfr, hlo, hws, hcw⟩, hcode, hini, hy, hlen, hl, hstt⟩ := cw
  have hK : vx_Back l R p e below s args y 3 8 (PreOf R mc ms Pc) (PostOf Qc mc ms free) (vx_Post XC mc ms free) := vx_backW (hh := hh) (bytes := bytes) (maxL := maxL) (ret := ret) hM hp.1 hrc hrs hfr hlo hws hcw (fun a' U hW => word_at hW (Or.inl (by first | rfl | simp [Cond.onTables, Cond.keeps, Cond.steady])) hini)
  obtain ⟨hx, hb, hml, ho, -⟩ := S
  intro T hT X
  rcases vx_callSX X hx (hh := hh) (bytes := bytes) (maxL := maxL) (ret := ret) ho hl hstt hini hcode hy hK hg (hsize.trans hml.symm) (argsL := As) (rest := rest) (fun sig h => hn.trans (hlen sig h)) hstack hW (by rw [hb]; exact hdg)
    (fun vm₁ hW₁ => ⟨hf.1, hf.2, hp.2 (T.setVm vm₁) hT hW₁⟩) with ⟨v, vm₁, ⟨U', l2, c2, s2⟩, hW₁, X', ⟨g', mk, t, L, e1, e2, hq, h1, hL, h2, h3⟩, st⟩ | ⟨q, vm₁, ⟨U', l2, c2, s2⟩, hW₁, X', ⟨g', mk, t, L, E, ce, e1, e2, hq, hce, hcv, hcl, h1, hL, h2, h3⟩, st⟩
  · dsimp only [Pt.U, Pt.locs, Pt.cells, Pt.slots] at X' e1 e2 h1 h2 h3 st
    subst h1; subst h2; subst h3
    exact Or.inl ⟨v, (T.setVm vm₁).calling g' mk As.toArray, t, U', L, hT, X', hL, e1, e2, hq, st⟩
  · dsimp only [Pt.U, Pt.locs, Pt.cells, Pt.slots] at X' e1 e2 h1 h2 h3 st hcl
    subst h1; subst h2; subst h3
    exact Or.inr ⟨q, (T.setVm vm₁).calling g' mk As.toArray, t, U', L, E, ce, hT, X', hL, e1, e2, hq, hce, hcv, vx_cls hW₁ hcl, st⟩
end
end VXH
theorem vx_ofWH {l : Launch} {y : MethodName} {ws ws' : List Cond} {rm : Room} {Pc : Array Value → State → Prop} {Qc : Array Value → State → Outcome → State → Prop} {XC : String → State → State → Prop} {mc ms : Nat} {free : Addr → Prop} {cc : ByteArray} {maxL : Nat} {ret : Option FieldType} {hh : List (Nat × Nat × Nat × Nat)}
    (hy : plainName y.cls = true) (hw : ws = Cond.codeWith y cc maxL ret hh :: ws')
    (body : ∀ p e s m args below meth c s₁, BodyLoose p l y (headSpec ws rm) cc maxL ret e s m args below meth c s₁ → c.maxLocals = maxL → Pc args s →
      W p l e (headSpec ws rm).room s m args below meth c s.heap [] 0 0 (vx_MQ below Qc XC args s mc ms free) (entryFrame m args maxL)) : vx_Met l y ws rm Pc Qc XC mc ms free := by
  refine MetFree.of_bodyS (code := cc) (maxLocals := maxL) (ret := ret) hy ?_ ?_
  · intro args s m h hn
    obtain ⟨m9, meth, c, hn9, h1, h2, h3, h4, -, h5, h6, -⟩ := Cond.codeWith_spec (atoms_spec (ws := ws) h _ (by rw [hw]; exact List.mem_cons_self))
    cases hn.symm.trans hn9
    exact ⟨meth, c, h1, h2, h3, h4, h5, h6⟩
  · intro p e s m args below meth c s₁ B hml hP _
    have hh0 : s₁.heap = s.heap := by rw [B.state]; rfl
    obtain ⟨t, a1, o, b1, b2, b3⟩ := body p e s m args below meth c s₁ B hml hP s₁ hh0 (Stand.of_body B)
    exact ⟨t, o, a1, b1, b2, b3⟩
/-! ===== END ===== -/
end
section
def RX0 : String := "FlyTower$Bar"
def TX0 : u_T := fun k => match k with
  | 0 => ("FlyTower$Bar", "number", "I", true)
  | 1 => ("FlyTower$Bar", "isMotor", "Z", false)
  | 2 => ("FlyTower$Bar", "limit", "I", false)
  | 3 => ("FlyTower$Bar", "height", "I", false)
  | 4 => ("FlyTower$Bar", "counter", "I", false)
  | 5 => ("FlyTower$Bar", "load", "I", false)
  | 6 => ("FlyTower$Bar", "deep", "I", false)
  | 7 => ("FlyTower$Bar", "wide", "I", false)
  | 8 => ("FlyTower$Bar", "arePeople", "Z", false)
  | 9 => ("FlyTower$Bar", "isWatched", "Z", false)
  | 10 => ("FlyTower$Bar", "isBroken", "Z", false)
  | 11 => ("FlyTower$Bar", "heightsGone", "I", false)
  | _ => ("FlyTower$Bar", "heightBefore", "I", false)
abbrev cX0_init : ByteArray := prog_2_method_1_code
def yX0_init : MethodName := ⟨RX0, "<init>", "(I)V"⟩
abbrev cX0_copyFrom : ByteArray := prog_2_method_2_code
def yX0_copyFrom : MethodName := ⟨RX0, "copyFrom", "(LFlyTower$Bar;)V"⟩
abbrev cX0_difference : ByteArray := prog_2_method_3_code
def yX0_difference : MethodName := ⟨RX0, "difference", "()I"⟩
abbrev cX0_differenceWithoutSign : ByteArray := prog_2_method_4_code
def yX0_differenceWithoutSign : MethodName := ⟨RX0, "differenceWithoutSign", "()I"⟩
abbrev cX0_touchesAt : ByteArray := prog_2_method_5_code
def yX0_touchesAt : MethodName := ⟨RX0, "touchesAt", "(ILFlyTower$Bar;)Z"⟩
abbrev cX0_goTo : ByteArray := prog_2_method_6_code
def yX0_goTo : MethodName := ⟨RX0, "goTo", "(I)V"⟩
def RX1 : String := "FlyTower$Cue"
def TX1 : u_T := fun k => match k with
  | 0 => ("FlyTower$Cue", "moves", "[LFlyTower$Move;", true)
  | 1 => ("FlyTower$Cue", "moveCount", "I", false)
  | _ => ("FlyTower$Cue", "follows", "I", false)
abbrev cX1_init : ByteArray := prog_3_method_1_code
def yX1_init : MethodName := ⟨RX1, "<init>", "()V"⟩
abbrev cX1_copyFrom : ByteArray := prog_3_method_2_code
def yX1_copyFrom : MethodName := ⟨RX1, "copyFrom", "(LFlyTower$Cue;)V"⟩
abbrev cX1_moveAt : ByteArray := prog_3_method_3_code
def yX1_moveAt : MethodName := ⟨RX1, "moveAt", "(I)LFlyTower$Move;"⟩
abbrev cX1_hasMoveOf : ByteArray := prog_3_method_4_code
def yX1_hasMoveOf : MethodName := ⟨RX1, "hasMoveOf", "(I)Z"⟩
abbrev cX1_openAll : ByteArray := prog_3_method_5_code
def yX1_openAll : MethodName := ⟨RX1, "openAll", "()V"⟩
abbrev cX1_openMoves : ByteArray := prog_3_method_6_code
def yX1_openMoves : MethodName := ⟨RX1, "openMoves", "()I"⟩
def RX2 : String := "FlyTower$Move"
def TX2 : u_T := fun k => match k with
  | 0 => ("FlyTower$Move", "bar", "I", false)
  | 1 => ("FlyTower$Move", "target", "I", false)
  | 2 => ("FlyTower$Move", "speed", "I", false)
  | 3 => ("FlyTower$Move", "delay", "I", false)
  | 4 => ("FlyTower$Move", "state", "I", false)
  | _ => ("FlyTower$Move", "late", "I", false)
abbrev cX2_init : ByteArray := prog_4_method_1_code
def yX2_init : MethodName := ⟨RX2, "<init>", "()V"⟩
abbrev cX2_copyFrom : ByteArray := prog_4_method_2_code
def yX2_copyFrom : MethodName := ⟨RX2, "copyFrom", "(LFlyTower$Move;)V"⟩
def RX3 : String := "FlyTower$Piece"
def TX3 : u_T := fun k => match k with
  | 0 => ("FlyTower$Piece", "weight", "I", false)
  | 1 => ("FlyTower$Piece", "drop", "I", false)
  | 2 => ("FlyTower$Piece", "thickness", "I", false)
  | _ => ("FlyTower$Piece", "bar", "I", false)
abbrev cX3_init : ByteArray := prog_5_method_1_code
def yX3_init : MethodName := ⟨RX3, "<init>", "()V"⟩
def RX4 : String := "FlyTower$Rig"
def TX4 : u_T := fun k => match k with
  | 0 => ("FlyTower$Rig", "bars", "[LFlyTower$Bar;", true)
  | 1 => ("FlyTower$Rig", "barCount", "I", false)
  | 2 => ("FlyTower$Rig", "cues", "[LFlyTower$Cue;", true)
  | 3 => ("FlyTower$Rig", "cueCount", "I", false)
  | 4 => ("FlyTower$Rig", "crew", "I", false)
  | 5 => ("FlyTower$Rig", "freeOperators", "I", false)
  | 6 => ("FlyTower$Rig", "now", "I", false)
  | 7 => ("FlyTower$Rig", "running", "I", false)
  | 8 => ("FlyTower$Rig", "isStopped", "Z", false)
  | 9 => ("FlyTower$Rig", "elapsed", "I", false)
  | 10 => ("FlyTower$Rig", "done", "I", false)
  | 11 => ("FlyTower$Rig", "over", "I", false)
  | 12 => ("FlyTower$Rig", "refused", "I", false)
  | 13 => ("FlyTower$Rig", "near", "I", false)
  | 14 => ("FlyTower$Rig", "crashes", "I", false)
  | 15 => ("FlyTower$Rig", "hurt", "I", false)
  | 16 => ("FlyTower$Rig", "late", "I", false)
  | _ => ("FlyTower$Rig", "keptBack", "I", false)
abbrev cX4_init : ByteArray := prog_6_method_1_code
def yX4_init : MethodName := ⟨RX4, "<init>", "()V"⟩
abbrev cX4_copyFrom : ByteArray := prog_6_method_2_code
def yX4_copyFrom : MethodName := ⟨RX4, "copyFrom", "(LFlyTower$Rig;)V"⟩
abbrev cX4_barAt : ByteArray := prog_6_method_3_code
def yX4_barAt : MethodName := ⟨RX4, "barAt", "(I)LFlyTower$Bar;"⟩
abbrev cX4_cueAt : ByteArray := prog_6_method_4_code
def yX4_cueAt : MethodName := ⟨RX4, "cueAt", "(I)LFlyTower$Cue;"⟩
abbrev cX4_mendBrakes : ByteArray := prog_6_method_5_code
def yX4_mendBrakes : MethodName := ⟨RX4, "mendBrakes", "()V"⟩
abbrev cX4_brokenBrakes : ByteArray := prog_6_method_6_code
def yX4_brokenBrakes : MethodName := ⟨RX4, "brokenBrakes", "()I"⟩
abbrev cX4_begin : ByteArray := prog_6_method_7_code
def yX4_begin : MethodName := ⟨RX4, "begin", "(I)V"⟩
abbrev cX4_rest : ByteArray := prog_6_method_8_code
def yX4_rest : MethodName := ⟨RX4, "rest", "()V"⟩
abbrev cX4_openMoves : ByteArray := prog_6_method_9_code
def yX4_openMoves : MethodName := ⟨RX4, "openMoves", "()I"⟩
abbrev cX4_playSecond : ByteArray := prog_6_method_10_code
def yX4_playSecond : MethodName := ⟨RX4, "playSecond", "()V"⟩
abbrev cX4_playMoves : ByteArray := prog_6_method_11_code
def yX4_playMoves : MethodName := ⟨RX4, "playMoves", "(LFlyTower$Cue;)V"⟩
abbrev cX4_mayGo : ByteArray := prog_6_method_12_code
def yX4_mayGo : MethodName := ⟨RX4, "mayGo", "(LFlyTower$Move;LFlyTower$Bar;)Z"⟩
abbrev cX4_goNearer : ByteArray := prog_6_method_13_code
def yX4_goNearer : MethodName := ⟨RX4, "goNearer", "(LFlyTower$Move;LFlyTower$Bar;)V"⟩
abbrev cX4_touchesAnew : ByteArray := prog_6_method_14_code
def yX4_touchesAnew : MethodName := ⟨RX4, "touchesAnew", "(LFlyTower$Bar;I)Z"⟩
abbrev cX4_runAway : ByteArray := prog_6_method_15_code
def yX4_runAway : MethodName := ⟨RX4, "runAway", "(LFlyTower$Bar;)V"⟩
abbrev cX4_judgeRun : ByteArray := prog_6_method_16_code
def yX4_judgeRun : MethodName := ⟨RX4, "judgeRun", "(LFlyTower$Bar;I)V"⟩
abbrev cX4_finish : ByteArray := prog_6_method_17_code
def yX4_finish : MethodName := ⟨RX4, "finish", "(I)V"⟩
def RX5 : String := "FlyTower"
def TX5 : u_T := fun k => match k with
  | 0 => ("FlyTower", "rig", "LFlyTower$Rig;", true)
  | 1 => ("FlyTower", "rehearsal", "LFlyTower$Rig;", true)
  | 2 => ("FlyTower", "pieceRow", "[LFlyTower$Piece;", true)
  | 3 => ("FlyTower", "pieceCount", "I", false)
  | _ => ("FlyTower", "places", "[I", true)
abbrev cX5_init : ByteArray := prog_1_method_1_code
def yX5_init : MethodName := ⟨RX5, "<init>", "()V"⟩
abbrev cX5_bar : ByteArray := prog_1_method_2_code
def yX5_bar : MethodName := ⟨RX5, "bar", "(ZI)I"⟩
abbrev cX5_piece : ByteArray := prog_1_method_3_code
def yX5_piece : MethodName := ⟨RX5, "piece", "(III)I"⟩
abbrev cX5_cue : ByteArray := prog_1_method_4_code
def yX5_cue : MethodName := ⟨RX5, "cue", "(I)I"⟩
abbrev cX5_move : ByteArray := prog_1_method_5_code
def yX5_move : MethodName := ⟨RX5, "move", "(IIIII)I"⟩
abbrev cX5_crew : ByteArray := prog_1_method_6_code
def yX5_crew : MethodName := ⟨RX5, "crew", "(I)I"⟩
abbrev cX5_below : ByteArray := prog_1_method_7_code
def yX5_below : MethodName := ⟨RX5, "below", "(IZZ)Z"⟩
abbrev cX5_hang : ByteArray := prog_1_method_8_code
def yX5_hang : MethodName := ⟨RX5, "hang", "(II)I"⟩
abbrev cX5_take : ByteArray := prog_1_method_9_code
def yX5_take : MethodName := ⟨RX5, "take", "(I)I"⟩
abbrev cX5_counter : ByteArray := prog_1_method_10_code
def yX5_counter : MethodName := ⟨RX5, "counter", "(II)I"⟩
abbrev cX5_go : ByteArray := prog_1_method_11_code
def yX5_go : MethodName := ⟨RX5, "go", "(I)I"⟩
abbrev cX5_stop : ByteArray := prog_1_method_12_code
def yX5_stop : MethodName := ⟨RX5, "stop", "(Z)Z"⟩
abbrev cX5_end : ByteArray := prog_1_method_13_code
def yX5_end : MethodName := ⟨RX5, "end", "()I"⟩
abbrev cX5_brake : ByteArray := prog_1_method_14_code
def yX5_brake : MethodName := ⟨RX5, "brake", "(IZ)Z"⟩
abbrev cX5_pass : ByteArray := prog_1_method_15_code
def yX5_pass : MethodName := ⟨RX5, "pass", "(I)I"⟩
abbrev cX5_ofBar : ByteArray := prog_1_method_16_code
def yX5_ofBar : MethodName := ⟨RX5, "ofBar", "(II)I"⟩
abbrev cX5_ofPiece : ByteArray := prog_1_method_17_code
def yX5_ofPiece : MethodName := ⟨RX5, "ofPiece", "(II)I"⟩
abbrev cX5_ofMove : ByteArray := prog_1_method_18_code
def yX5_ofMove : MethodName := ⟨RX5, "ofMove", "(III)I"⟩
abbrev cX5_touch : ByteArray := prog_1_method_19_code
def yX5_touch : MethodName := ⟨RX5, "touch", "(II)Z"⟩
abbrev cX5_many : ByteArray := prog_1_method_20_code
def yX5_many : MethodName := ⟨RX5, "many", "(I)I"⟩
abbrev cX5_meanHeight : ByteArray := prog_1_method_21_code
def yX5_meanHeight : MethodName := ⟨RX5, "meanHeight", "()D"⟩
abbrev cX5_secondsFor : ByteArray := prog_1_method_22_code
def yX5_secondsFor : MethodName := ⟨RX5, "secondsFor", "(I)I"⟩
abbrev cX5_stopsAt : ByteArray := prog_1_method_23_code
def yX5_stopsAt : MethodName := ⟨RX5, "stopsAt", "(I)I"⟩
abbrev cX5_wouldHurt : ByteArray := prog_1_method_24_code
def yX5_wouldHurt : MethodName := ⟨RX5, "wouldHurt", "(I)I"⟩
abbrev cX5_fits : ByteArray := prog_1_method_25_code
def yX5_fits : MethodName := ⟨RX5, "fits", "(I)I"⟩
abbrev cX5_digest : ByteArray := prog_1_method_26_code
def yX5_digest : MethodName := ⟨RX5, "digest", "()J"⟩
abbrev cX5_digestOfMoves : ByteArray := prog_1_method_27_code
def yX5_digestOfMoves : MethodName := ⟨RX5, "digestOfMoves", "(JI)J"⟩
abbrev cX5_pieceAt : ByteArray := prog_1_method_28_code
def yX5_pieceAt : MethodName := ⟨RX5, "pieceAt", "(I)LFlyTower$Piece;"⟩
abbrev cX5_refuseUnlessRunning : ByteArray := prog_1_method_29_code
def yX5_refuseUnlessRunning : MethodName := ⟨RX5, "refuseUnlessRunning", "()V"⟩
abbrev cX5_refuseUnlessAtRest : ByteArray := prog_1_method_30_code
def yX5_refuseUnlessAtRest : MethodName := ⟨RX5, "refuseUnlessAtRest", "(LFlyTower$Bar;)V"⟩
abbrev cX5_weigh : ByteArray := prog_1_method_31_code
def yX5_weigh : MethodName := ⟨RX5, "weigh", "(LFlyTower$Bar;)V"⟩
abbrev cX5_rehearse : ByteArray := prog_1_method_32_code
def yX5_rehearse : MethodName := ⟨RX5, "rehearse", "(I)I"⟩
abbrev cX5_smallestPlace : ByteArray := prog_1_method_33_code
def yX5_smallestPlace : MethodName := ⟨RX5, "smallestPlace", "(II)I"⟩
abbrev cX5_isBehindFormer : ByteArray := prog_1_method_34_code
def yX5_isBehindFormer : MethodName := ⟨RX5, "isBehindFormer", "(III)Z"⟩
abbrev cX5_isIn : ByteArray := prog_1_method_35_code
def yX5_isIn : MethodName := ⟨RX5, "isIn", "(II)Z"⟩
def RX6 : String := "FlyTowerModel$Tower"
def TX6 : u_T := fun k => match k with
  | 0 => ("FlyTowerModel$Tower", "bars", "Ljava/util/ArrayList;", true)
  | 1 => ("FlyTowerModel$Tower", "cues", "Ljava/util/ArrayList;", true)
  | 2 => ("FlyTowerModel$Tower", "follows", "[I", true)
  | 3 => ("FlyTowerModel$Tower", "crew", "I", false)
  | 4 => ("FlyTowerModel$Tower", "now", "I", false)
  | 5 => ("FlyTowerModel$Tower", "runs", "I", false)
  | 6 => ("FlyTowerModel$Tower", "isStopped", "Z", false)
  | 7 => ("FlyTowerModel$Tower", "elapsed", "I", false)
  | 8 => ("FlyTowerModel$Tower", "over", "I", false)
  | 9 => ("FlyTowerModel$Tower", "refused", "I", false)
  | 10 => ("FlyTowerModel$Tower", "near", "I", false)
  | 11 => ("FlyTowerModel$Tower", "crashes", "I", false)
  | 12 => ("FlyTowerModel$Tower", "hurt", "I", false)
  | 13 => ("FlyTowerModel$Tower", "late", "I", false)
  | _ => ("FlyTowerModel$Tower", "kept", "I", false)
abbrev cX6_init : ByteArray := prog_9_method_1_code
def yX6_init : MethodName := ⟨RX6, "<init>", "()V"⟩
abbrev cX6_copy : ByteArray := prog_9_method_2_code
def yX6_copy : MethodName := ⟨RX6, "copy", "()LFlyTowerModel$Tower;"⟩
abbrev cX6_difference : ByteArray := prog_9_method_3_code
def yX6_difference : MethodName := ⟨RX6, "difference", "([I)I"⟩
abbrev cX6_touches : ByteArray := prog_9_method_4_code
def yX6_touches : MethodName := ⟨RX6, "touches", "(III)Z"⟩
abbrev cX6_isHeld : ByteArray := prog_9_method_5_code
def yX6_isHeld : MethodName := ⟨RX6, "isHeld", "(II)Z"⟩
abbrev cX6_put : ByteArray := prog_9_method_6_code
def yX6_put : MethodName := ⟨RX6, "put", "(II)V"⟩
abbrev cX6_begin : ByteArray := prog_9_method_7_code
def yX6_begin : MethodName := ⟨RX6, "begin", "(I)V"⟩
abbrev cX6_open : ByteArray := prog_9_method_8_code
def yX6_open : MethodName := ⟨RX6, "open", "()I"⟩
abbrev cX6_end : ByteArray := prog_9_method_9_code
def yX6_end : MethodName := ⟨RX6, "end", "()V"⟩
abbrev cX6_pass : ByteArray := prog_9_method_10_code
def yX6_pass : MethodName := ⟨RX6, "pass", "()I"⟩
abbrev cX6_act : ByteArray := prog_9_method_11_code
def yX6_act : MethodName := ⟨RX6, "act", "()I"⟩
abbrev cX6_go : ByteArray := prog_9_method_12_code
def yX6_go : MethodName := ⟨RX6, "go", "([I)I"⟩
abbrev cX6_runAway : ByteArray := prog_9_method_13_code
def yX6_runAway : MethodName := ⟨RX6, "runAway", "(I)V"⟩
def RX7 : String := "FlyTowerModel"
def TX7 : u_T := fun k => match k with
  | 0 => ("FlyTowerModel", "thrown", "I", false)
  | 1 => ("FlyTowerModel", "pieces", "Ljava/util/ArrayList;", true)
  | 2 => ("FlyTowerModel", "tower", "LFlyTowerModel$Tower;", true)
  | _ => ("FlyTowerModel", "sum", "J", false)
abbrev cX7_init : ByteArray := prog_8_method_1_code
def yX7_init : MethodName := ⟨RX7, "<init>", "()V"⟩
abbrev cX7_thrown : ByteArray := prog_8_method_2_code
def yX7_thrown : MethodName := ⟨RX7, "thrown", "()I"⟩
abbrev cX7_refuse : ByteArray := prog_8_method_3_code
def yX7_refuse : MethodName := ⟨RX7, "refuse", "(I)I"⟩
abbrev cX7_is : ByteArray := prog_8_method_4_code
def yX7_is : MethodName := ⟨RX7, "is", "(III)Z"⟩
abbrev cX7_isBar : ByteArray := prog_8_method_5_code
def yX7_isBar : MethodName := ⟨RX7, "isBar", "(I)Z"⟩
abbrev cX7_isPiece : ByteArray := prog_8_method_6_code
def yX7_isPiece : MethodName := ⟨RX7, "isPiece", "(I)Z"⟩
abbrev cX7_isCue : ByteArray := prog_8_method_7_code
def yX7_isCue : MethodName := ⟨RX7, "isCue", "(I)Z"⟩
abbrev cX7_bar : ByteArray := prog_8_method_8_code
def yX7_bar : MethodName := ⟨RX7, "bar", "(ZI)I"⟩
abbrev cX7_piece : ByteArray := prog_8_method_9_code
def yX7_piece : MethodName := ⟨RX7, "piece", "(III)I"⟩
abbrev cX7_cue : ByteArray := prog_8_method_10_code
def yX7_cue : MethodName := ⟨RX7, "cue", "(I)I"⟩
abbrev cX7_move : ByteArray := prog_8_method_11_code
def yX7_move : MethodName := ⟨RX7, "move", "(IIIII)I"⟩
abbrev cX7_crew : ByteArray := prog_8_method_12_code
def yX7_crew : MethodName := ⟨RX7, "crew", "(I)I"⟩
abbrev cX7_below : ByteArray := prog_8_method_13_code
def yX7_below : MethodName := ⟨RX7, "below", "(IZZ)Z"⟩
abbrev cX7_weigh : ByteArray := prog_8_method_14_code
def yX7_weigh : MethodName := ⟨RX7, "weigh", "(I)V"⟩
abbrev cX7_isLow : ByteArray := prog_8_method_15_code
def yX7_isLow : MethodName := ⟨RX7, "isLow", "(I)Z"⟩
abbrev cX7_hang : ByteArray := prog_8_method_16_code
def yX7_hang : MethodName := ⟨RX7, "hang", "(II)I"⟩
abbrev cX7_take : ByteArray := prog_8_method_17_code
def yX7_take : MethodName := ⟨RX7, "take", "(I)I"⟩
abbrev cX7_counter : ByteArray := prog_8_method_18_code
def yX7_counter : MethodName := ⟨RX7, "counter", "(II)I"⟩
abbrev cX7_go : ByteArray := prog_8_method_19_code
def yX7_go : MethodName := ⟨RX7, "go", "(I)I"⟩
abbrev cX7_stop : ByteArray := prog_8_method_20_code
def yX7_stop : MethodName := ⟨RX7, "stop", "(Z)Z"⟩
abbrev cX7_end : ByteArray := prog_8_method_21_code
def yX7_end : MethodName := ⟨RX7, "end", "()I"⟩
abbrev cX7_brake : ByteArray := prog_8_method_22_code
def yX7_brake : MethodName := ⟨RX7, "brake", "(IZ)Z"⟩
abbrev cX7_pass : ByteArray := prog_8_method_23_code
def yX7_pass : MethodName := ⟨RX7, "pass", "(I)I"⟩
abbrev cX7_ofBarNow : ByteArray := prog_8_method_24_code
def yX7_ofBarNow : MethodName := ⟨RX7, "ofBarNow", "(II)I"⟩
abbrev cX7_ofBar : ByteArray := prog_8_method_25_code
def yX7_ofBar : MethodName := ⟨RX7, "ofBar", "(II)I"⟩
abbrev cX7_ofPiece : ByteArray := prog_8_method_26_code
def yX7_ofPiece : MethodName := ⟨RX7, "ofPiece", "(II)I"⟩
abbrev cX7_ofMove : ByteArray := prog_8_method_27_code
def yX7_ofMove : MethodName := ⟨RX7, "ofMove", "(III)I"⟩
abbrev cX7_touch : ByteArray := prog_8_method_28_code
def yX7_touch : MethodName := ⟨RX7, "touch", "(II)Z"⟩
abbrev cX7_manyNow : ByteArray := prog_8_method_29_code
def yX7_manyNow : MethodName := ⟨RX7, "manyNow", "(I)I"⟩
abbrev cX7_many : ByteArray := prog_8_method_30_code
def yX7_many : MethodName := ⟨RX7, "many", "(I)I"⟩
abbrev cX7_meanHeight : ByteArray := prog_8_method_31_code
def yX7_meanHeight : MethodName := ⟨RX7, "meanHeight", "()D"⟩
abbrev cX7_played : ByteArray := prog_8_method_32_code
def yX7_played : MethodName := ⟨RX7, "played", "(I)LFlyTowerModel$Tower;"⟩
abbrev cX7_secondsNow : ByteArray := prog_8_method_33_code
def yX7_secondsNow : MethodName := ⟨RX7, "secondsNow", "(I)I"⟩
abbrev cX7_secondsFor : ByteArray := prog_8_method_34_code
def yX7_secondsFor : MethodName := ⟨RX7, "secondsFor", "(I)I"⟩
abbrev cX7_stopsAt : ByteArray := prog_8_method_35_code
def yX7_stopsAt : MethodName := ⟨RX7, "stopsAt", "(I)I"⟩
abbrev cX7_hurtNow : ByteArray := prog_8_method_36_code
def yX7_hurtNow : MethodName := ⟨RX7, "hurtNow", "(I)I"⟩
abbrev cX7_wouldHurt : ByteArray := prog_8_method_37_code
def yX7_wouldHurt : MethodName := ⟨RX7, "wouldHurt", "(I)I"⟩
abbrev cX7_fitsNow : ByteArray := prog_8_method_38_code
def yX7_fitsNow : MethodName := ⟨RX7, "fitsNow", "(I)I"⟩
abbrev cX7_canLie : ByteArray := prog_8_method_39_code
def yX7_canLie : MethodName := ⟨RX7, "canLie", "(I[III)Z"⟩
abbrev cX7_fits : ByteArray := prog_8_method_40_code
def yX7_fits : MethodName := ⟨RX7, "fits", "(I)I"⟩
abbrev cX7_add : ByteArray := prog_8_method_41_code
def yX7_add : MethodName := ⟨RX7, "add", "(I)V"⟩
abbrev cX7_digest : ByteArray := prog_8_method_42_code
def yX7_digest : MethodName := ⟨RX7, "digest", "()J"⟩
def RJx145de : String := "java/io/Serializable"
def TJx145de : u_T := fun k => match k with
  | _ => ("", "", "", false)
def RJx8e188 : String := "java/lang/Cloneable"
def TJx8e188 : u_T := fun k => match k with
  | _ => ("", "", "", false)
def RJxab1ab : String := "java/lang/Iterable"
def TJxab1ab : u_T := fun k => match k with
  | _ => ("", "", "", false)
def RJ9 : String := "java/lang/Math"
def TJ9 : u_T := fun k => match k with
  | _ => ("", "", "", false)
abbrev cJ9_abs_0f7a4 : ByteArray := prog_17_method_59_code
def yJ9_abs_0f7a4 : MethodName := ⟨RJ9, "abs", "(I)I"⟩
abbrev cJ9_max_7cf53 : ByteArray := prog_17_method_65_code
def yJ9_max_7cf53 : MethodName := ⟨RJ9, "max", "(II)I"⟩
abbrev cJ9_min_7cf53 : ByteArray := prog_17_method_69_code
def yJ9_min_7cf53 : MethodName := ⟨RJ9, "min", "(II)I"⟩
def RJ0 : String := "java/lang/String"
def TJ0 : u_T := fun k => match k with
  | _ => ("", "", "", false)
def RJ10 : String := "java/lang/System"
def TJ10 : u_T := fun k => match k with
  | _ => ("", "", "", false)
def RJxa1e45 : String := "java/util/AbstractCollection"
def TJxa1e45 : u_T := fun k => match k with
  | _ => ("", "", "", false)
abbrev cJxa1e45_init_da8c8 : ByteArray := prog_22_method_1_code
def yJxa1e45_init_da8c8 : MethodName := ⟨RJxa1e45, "<init>", "()V"⟩
def RJxc12de : String := "java/util/AbstractList"
def TJxc12de : u_T := fun k => match k with
  | _ => ("", "", "", false)
abbrev cJxc12de_init_da8c8 : ByteArray := prog_23_method_1_code
def yJxc12de_init_da8c8 : MethodName := ⟨RJxc12de, "<init>", "()V"⟩
def RJx35411 : String := "java/util/ArrayList$Itr"
def TJx35411 : u_T := fun k => match k with
  | 0 => ("java/util/ArrayList$Itr", "cursor", "I", false)
  | 1 => ("java/util/ArrayList$Itr", "lastRet", "I", false)
  | 2 => ("java/util/ArrayList$Itr", "expectedModCount", "I", false)
  | _ => ("java/util/ArrayList$Itr", "this$0", "Ljava/util/ArrayList;", true)
abbrev cJx35411_init_45d68 : ByteArray := prog_25_method_1_code
def yJx35411_init_45d68 : MethodName := ⟨RJx35411, "<init>", "(Ljava/util/ArrayList;)V"⟩
abbrev cJx35411_hasNext_aae02 : ByteArray := prog_25_method_2_code
def yJx35411_hasNext_aae02 : MethodName := ⟨RJx35411, "hasNext", "()Z"⟩
abbrev cJx35411_next_0502b : ByteArray := prog_25_method_3_code
def yJx35411_next_0502b : MethodName := ⟨RJx35411, "next", "()Ljava/lang/Object;"⟩
abbrev cJx35411_checkForComodification_da8c8 : ByteArray := prog_25_method_6_code
def yJx35411_checkForComodification_da8c8 : MethodName := ⟨RJx35411, "checkForComodification", "()V"⟩
def RJx4a65c : String := "java/util/ArrayList"
def TJx4a65c : u_T := fun k => match k with
  | 0 => ("java/util/AbstractList", "modCount", "I", false)
  | 1 => ("java/util/ArrayList", "elementData", "[Ljava/lang/Object;", false)
  | _ => ("java/util/ArrayList", "size", "I", false)
abbrev cJx4a65c_init_da8c8 : ByteArray := prog_24_method_2_code
def yJx4a65c_init_da8c8 : MethodName := ⟨RJx4a65c, "<init>", "()V"⟩
abbrev cJx4a65c_grow_92f84 : ByteArray := prog_24_method_6_code
def yJx4a65c_grow_92f84 : MethodName := ⟨RJx4a65c, "grow", "(I)[Ljava/lang/Object;"⟩
abbrev cJx4a65c_grow_d5877 : ByteArray := prog_24_method_7_code
def yJx4a65c_grow_d5877 : MethodName := ⟨RJx4a65c, "grow", "()[Ljava/lang/Object;"⟩
abbrev cJx4a65c_size_8abf5 : ByteArray := prog_24_method_8_code
def yJx4a65c_size_8abf5 : MethodName := ⟨RJx4a65c, "size", "()I"⟩
abbrev cJx4a65c_isEmpty_aae02 : ByteArray := prog_24_method_9_code
def yJx4a65c_isEmpty_aae02 : MethodName := ⟨RJx4a65c, "isEmpty", "()Z"⟩
abbrev cJx4a65c_elementData_915e3 : ByteArray := prog_24_method_18_code
def yJx4a65c_elementData_915e3 : MethodName := ⟨RJx4a65c, "elementData", "(I)Ljava/lang/Object;"⟩
abbrev cJx4a65c_get_915e3 : ByteArray := prog_24_method_20_code
def yJx4a65c_get_915e3 : MethodName := ⟨RJx4a65c, "get", "(I)Ljava/lang/Object;"⟩
abbrev cJx4a65c_add_72be8 : ByteArray := prog_24_method_24_code
def yJx4a65c_add_72be8 : MethodName := ⟨RJx4a65c, "add", "(Ljava/lang/Object;[Ljava/lang/Object;I)V"⟩
abbrev cJx4a65c_add_9ea2d : ByteArray := prog_24_method_25_code
def yJx4a65c_add_9ea2d : MethodName := ⟨RJx4a65c, "add", "(Ljava/lang/Object;)Z"⟩
abbrev cJx4a65c_iterator_32c93 : ByteArray := prog_24_method_55_code
def yJx4a65c_iterator_32c93 : MethodName := ⟨RJx4a65c, "iterator", "()Ljava/util/Iterator;"⟩
def RJ7 : String := "java/util/Arrays"
def TJ7 : u_T := fun k => match k with
  | _ => ("", "", "", false)
abbrev cJ7_copyOf_1904c : ByteArray := prog_26_method_119_code
def yJ7_copyOf_1904c : MethodName := ⟨RJ7, "copyOf", "([Ljava/lang/Object;I)[Ljava/lang/Object;"⟩
abbrev cJ7_copyOf_6403c : ByteArray := prog_26_method_120_code
def yJ7_copyOf_6403c : MethodName := ⟨RJ7, "copyOf", "([Ljava/lang/Object;ILjava/lang/Class;)[Ljava/lang/Object;"⟩
def RJx5ef63 : String := "java/util/Collection"
def TJx5ef63 : u_T := fun k => match k with
  | _ => ("", "", "", false)
def RJx4d0d8 : String := "java/util/Iterator"
def TJx4d0d8 : u_T := fun k => match k with
  | _ => ("", "", "", false)
def RJxbd725 : String := "java/util/List"
def TJxbd725 : u_T := fun k => match k with
  | _ => ("", "", "", false)
def RJ15 : String := "java/util/Objects"
def TJ15 : u_T := fun k => match k with
  | _ => ("", "", "", false)
abbrev cJ15_checkIndex_7cf53 : ByteArray := prog_30_method_17_code
def yJ15_checkIndex_7cf53 : MethodName := ⟨RJ15, "checkIndex", "(II)I"⟩
def RJxf0a74 : String := "java/util/RandomAccess"
def TJxf0a74 : u_T := fun k => match k with
  | _ => ("", "", "", false)
def RJxa66e6 : String := "java/util/SequencedCollection"
def TJxa66e6 : u_T := fun k => match k with
  | _ => ("", "", "", false)
def RJ8 : String := "jdk/internal/util/ArraysSupport"
def TJ8 : u_T := fun k => match k with
  | _ => ("", "", "", false)
abbrev cJ8_newLength_cabcc : ByteArray := prog_33_method_27_code
def yJ8_newLength_cabcc : MethodName := ⟨RJ8, "newLength", "(III)I"⟩
abbrev cJ8_hugeLength_7cf53 : ByteArray := prog_33_method_28_code
def yJ8_hugeLength_7cf53 : MethodName := ⟨RJ8, "hugeLength", "(II)I"⟩
def RJ3 : String := "jdk/internal/util/Preconditions"
def TJ3 : u_T := fun k => match k with
  | _ => ("", "", "", false)
abbrev cJ3_checkIndex_8e157 : ByteArray := prog_34_method_11_code
def yJ3_checkIndex_8e157 : MethodName := ⟨RJ3, "checkIndex", "(IILjava/util/function/BiFunction;)I"⟩
def RL : String := "FlyTowerLaw"
abbrev cL_bar : ByteArray := method_3_code
def yL_bar : MethodName := ⟨RL, "bar", "(LFlyTower;ZI[J)I"⟩
abbrev cL_piece : ByteArray := method_4_code
def yL_piece : MethodName := ⟨RL, "piece", "(LFlyTower;III[J)I"⟩
abbrev cL_cue : ByteArray := method_5_code
def yL_cue : MethodName := ⟨RL, "cue", "(LFlyTower;I[J)I"⟩
abbrev cL_move : ByteArray := method_6_code
def yL_move : MethodName := ⟨RL, "move", "(LFlyTower;IIIII[J)I"⟩
abbrev cL_crew : ByteArray := method_7_code
def yL_crew : MethodName := ⟨RL, "crew", "(LFlyTower;I[J)I"⟩
abbrev cL_below : ByteArray := method_8_code
def yL_below : MethodName := ⟨RL, "below", "(LFlyTower;IZZ[J)I"⟩
abbrev cL_hang : ByteArray := method_9_code
def yL_hang : MethodName := ⟨RL, "hang", "(LFlyTower;II[J)I"⟩
abbrev cL_take : ByteArray := method_10_code
def yL_take : MethodName := ⟨RL, "take", "(LFlyTower;I[J)I"⟩
abbrev cL_counter : ByteArray := method_11_code
def yL_counter : MethodName := ⟨RL, "counter", "(LFlyTower;II[J)I"⟩
abbrev cL_go : ByteArray := method_12_code
def yL_go : MethodName := ⟨RL, "go", "(LFlyTower;I[J)I"⟩
abbrev cL_stop : ByteArray := method_13_code
def yL_stop : MethodName := ⟨RL, "stop", "(LFlyTower;Z[J)I"⟩
abbrev cL_end : ByteArray := method_14_code
def yL_end : MethodName := ⟨RL, "end", "(LFlyTower;[J)I"⟩
abbrev cL_brake : ByteArray := method_15_code
def yL_brake : MethodName := ⟨RL, "brake", "(LFlyTower;IZ[J)I"⟩
abbrev cL_pass : ByteArray := method_16_code
def yL_pass : MethodName := ⟨RL, "pass", "(LFlyTower;I[J)I"⟩
abbrev cL_ofBar : ByteArray := method_17_code
def yL_ofBar : MethodName := ⟨RL, "ofBar", "(LFlyTower;II[J)I"⟩
abbrev cL_ofPiece : ByteArray := method_18_code
def yL_ofPiece : MethodName := ⟨RL, "ofPiece", "(LFlyTower;II[J)I"⟩
abbrev cL_ofMove : ByteArray := method_19_code
def yL_ofMove : MethodName := ⟨RL, "ofMove", "(LFlyTower;III[J)I"⟩
abbrev cL_touch : ByteArray := method_20_code
def yL_touch : MethodName := ⟨RL, "touch", "(LFlyTower;II[J)I"⟩
abbrev cL_many : ByteArray := method_21_code
def yL_many : MethodName := ⟨RL, "many", "(LFlyTower;I[J)I"⟩
abbrev cL_secondsFor : ByteArray := method_22_code
def yL_secondsFor : MethodName := ⟨RL, "secondsFor", "(LFlyTower;I[J)I"⟩
abbrev cL_stopsAt : ByteArray := method_23_code
def yL_stopsAt : MethodName := ⟨RL, "stopsAt", "(LFlyTower;I[J)I"⟩
abbrev cL_wouldHurt : ByteArray := method_24_code
def yL_wouldHurt : MethodName := ⟨RL, "wouldHurt", "(LFlyTower;I[J)I"⟩
abbrev cL_fits : ByteArray := method_25_code
def yL_fits : MethodName := ⟨RL, "fits", "(LFlyTower;I[J)I"⟩
abbrev cL_law : ByteArray := code
def yL_law : MethodName := ⟨RL, "law", "([I)Z"⟩
abbrev vwCl : List vw_C := [(RJx35411, TJx35411, 4), (RJx4a65c, TJx4a65c, 3), (RX0, TX0, 13), (RX1, TX1, 3), (RX2, TX2, 6), (RX3, TX3, 4), (RX4, TX4, 18), (RX5, TX5, 5), (RX6, TX6, 15), (RX7, TX7, 4)]
end
section
theorem g_lookup_mem {β : Type} : ∀ {l : List (Nat × β)} {k : Nat} {v : β}, l.lookup k = some v → (k, v) ∈ l
  | [], _, _, h => by cases h
  | (a, b) :: l, k, v, h => by
    rw [List.lookup_cons] at h
    cases hk : (k == a) with
    | true =>
      rw [hk] at h
      cases h
      rw [eq_of_beq hk]
      exact List.mem_cons_self
    | false =>
      rw [hk] at h
      exact List.mem_cons_of_mem _ (g_lookup_mem h)
theorem g_getD_ge {α : Type} {L : List α} {c : Nat} {d : α} (h : L.length ≤ c) : L.getD c d = d := by
  rw [List.getD_eq_getElem?_getD, List.getElem?_eq_none h]
  rfl
theorem g_getD_mem {α : Type} {L : List α} {c : Nat} {d : α} (h : c < L.length) : L.getD c d ∈ L := by
  rw [List.getD_eq_getElem?_getD, List.getElem?_eq_getElem h]
  exact List.getElem_mem h
theorem g_look {β : Type} {L : List (List (Nat × β))} {P : Nat → Nat → β → Bool} (hv : (List.range L.length).all (fun c => (L.getD c []).all (fun e => P c e.1 e.2)) = true) {c ix : Nat} {v : β} (h : (L.getD c []).lookup ix = some v) : P c ix v = true := by
  rcases Nat.lt_or_ge c L.length with hc | hc
  · have h1 := List.all_eq_true.mp hv c (List.mem_range.mpr hc)
    exact List.all_eq_true.mp h1 (ix, v) (g_lookup_mem h)
  · rw [g_getD_ge hc] at h
    cases h
/-- an instruction's own length (0: a switch, or none of those used) -/
def glen : Instr → Nat
  | .aaload | .aastore | .aconst_null | .aload_n _ | .areturn | .arraylength | .astore_n _ | .athrow => 1
  | .aload _ | .astore _ | .bipush _ | .newarray _ | .iload _ | .istore _ | .lload _ | .lstore _ | .dload _ | .dstore _ | .ldc _ => 2
  | .anewarray _ | .checkcast _ | .getfield _ | .putfield _ | .getstatic _ | .goto _ | .if_acmp .. | .if_icmp .. | .ifCond .. | .ifnull _ | .ifnonnull _ | .iinc .. | .invokestatic _ | .invokespecial _ | .invokevirtual _ | .new _ | .sipush _ | .ldc_w _ | .ldc2_w _ => 3
  | .dup | .dup_x1 | .dup2 | .pop | .iadd | .isub | .imul | .idiv | .irem | .ineg | .iand | .ior | .ixor | .ishl | .ishr | .iushr | .ladd | .lmul | .lcmp | .i2l | .i2d | .ddiv | .dmul | .dsub | .dcmp _ | .dconst _ | .iconst _ | .lconst _ => 1
  | .iaload | .iastore | .laload | .lastore | .iload_n _ | .istore_n _ | .lload_n _ | .lstore_n _ | .dload_n _ | .dstore_n _ | .ireturn | .lreturn | .dreturn | .return_ => 1
  | .invokeinterface .. => 5
  | _ => 0
end
section
def g_okc (cc : ByteArray) (ch : List (Nat × Instr × Nat)) : Bool := ch.all fun e => decide (decode cc e.1 = .ok (e.2.1, e.2.2)) && (glen e.2.1 == e.2.2 || glen e.2.1 == 0)
def gi_0_0 : List (Nat × Instr × Nat) := [(0, .aload_n 0, 1), (1, .invokespecial 1, 3), (4, .aload_n 0, 1), (5, .iconst 1, 1), (6, .putfield 7, 3), (9, .aload_n 0, 1), (10, .iload_n 1, 1), (11, .putfield 13, 3), (14, .return_, 1)]
set_option maxRecDepth 100000 in
theorem gv_0_0 : g_okc cX0_init gi_0_0 = true := by decide +kernel
def gi_0 : List (List (Nat × Instr × Nat)) := [gi_0_0]
theorem gv_0 : ∀ ch ∈ gi_0, g_okc cX0_init ch = true := List.forall_mem_cons.mpr ⟨gv_0_0, fun _ h => absurd h List.not_mem_nil⟩
def gi_1_0 : List (Nat × Instr × Nat) := [(0, .aload_n 0, 1), (1, .invokespecial 3, 3), (4, .aload_n 0, 1), (5, .iconst (-1), 1), (6, .putfield 9, 3), (9, .return_, 1)]
set_option maxRecDepth 100000 in
theorem gv_1_0 : g_okc cX2_init gi_1_0 = true := by decide +kernel
def gi_1 : List (List (Nat × Instr × Nat)) := [gi_1_0]
theorem gv_1 : ∀ ch ∈ gi_1, g_okc cX2_init ch = true := List.forall_mem_cons.mpr ⟨gv_1_0, fun _ h => absurd h List.not_mem_nil⟩
def gi_2_0 : List (Nat × Instr × Nat) := [(0, .aload_n 0, 1), (1, .invokespecial 3, 3), (4, .aload_n 0, 1), (5, .iconst (-1), 1), (6, .putfield 9, 3), (9, .aload_n 0, 1), (10, .bipush 6, 2), (12, .anewarray 15, 3), (15, .putfield 17, 3), (18, .iconst 0, 1), (19, .istore_n 1, 1), (20, .iload_n 1, 1), (21, .bipush 6, 2), (23, .if_icmp .ge 22, 3), (26, .aload_n 0, 1), (27, .getfield 17, 3), (30, .iload_n 1, 1), (31, .new 15, 3)]
set_option maxRecDepth 100000 in
theorem gv_2_0 : g_okc cX1_init gi_2_0 = true := by decide +kernel
def gi_2_1 : List (Nat × Instr × Nat) := [(34, .dup, 1), (35, .invokespecial 21, 3), (38, .aastore, 1), (39, .iinc 1 1, 3), (42, .goto (-22), 3), (45, .return_, 1)]
set_option maxRecDepth 100000 in
theorem gv_2_1 : g_okc cX1_init gi_2_1 = true := by decide +kernel
def gi_2 : List (List (Nat × Instr × Nat)) := [gi_2_0, gi_2_1]
theorem gv_2 : ∀ ch ∈ gi_2, g_okc cX1_init ch = true := List.forall_mem_cons.mpr ⟨gv_2_0, List.forall_mem_cons.mpr ⟨gv_2_1, fun _ h => absurd h List.not_mem_nil⟩⟩
def gi_3_0 : List (Nat × Instr × Nat) := [(0, .aload_n 0, 1), (1, .invokespecial 3, 3), (4, .aload_n 0, 1), (5, .iconst 2, 1), (6, .putfield 9, 3), (9, .aload_n 0, 1), (10, .iconst (-1), 1), (11, .putfield 15, 3), (14, .aload_n 0, 1), (15, .iconst (-1), 1), (16, .putfield 18, 3), (19, .aload_n 0, 1), (20, .bipush 8, 2), (22, .anewarray 21, 3), (25, .putfield 23, 3), (28, .iconst 0, 1), (29, .istore_n 1, 1), (30, .iload_n 1, 1), (31, .bipush 8, 2)]
set_option maxRecDepth 100000 in
theorem gv_3_0 : g_okc cX4_init gi_3_0 = true := by decide +kernel
def gi_3_1 : List (Nat × Instr × Nat) := [(33, .if_icmp .ge 23, 3), (36, .aload_n 0, 1), (37, .getfield 23, 3), (40, .iload_n 1, 1), (41, .new 21, 3), (44, .dup, 1), (45, .iload_n 1, 1), (46, .invokespecial 27, 3), (49, .aastore, 1), (50, .iinc 1 1, 3), (53, .goto (-23), 3), (56, .aload_n 0, 1), (57, .bipush 6, 2), (59, .anewarray 30, 3), (62, .putfield 32, 3)]
set_option maxRecDepth 100000 in
theorem gv_3_1 : g_okc cX4_init gi_3_1 = true := by decide +kernel
def gi_3_2 : List (Nat × Instr × Nat) := [(65, .iconst 0, 1), (66, .istore_n 1, 1), (67, .iload_n 1, 1), (68, .bipush 6, 2), (70, .if_icmp .ge 22, 3), (73, .aload_n 0, 1), (74, .getfield 32, 3), (77, .iload_n 1, 1), (78, .new 30, 3), (81, .dup, 1), (82, .invokespecial 36, 3), (85, .aastore, 1), (86, .iinc 1 1, 3), (89, .goto (-22), 3), (92, .return_, 1)]
set_option maxRecDepth 100000 in
theorem gv_3_2 : g_okc cX4_init gi_3_2 = true := by decide +kernel
def gi_3 : List (List (Nat × Instr × Nat)) := [gi_3_0, gi_3_1, gi_3_2]
theorem gv_3 : ∀ ch ∈ gi_3, g_okc cX4_init ch = true := List.forall_mem_cons.mpr ⟨gv_3_0, List.forall_mem_cons.mpr ⟨gv_3_1, List.forall_mem_cons.mpr ⟨gv_3_2, fun _ h => absurd h List.not_mem_nil⟩⟩⟩
def gi_4_0 : List (Nat × Instr × Nat) := [(0, .aload_n 0, 1), (1, .invokespecial 3, 3), (4, .aload_n 0, 1), (5, .iconst (-1), 1), (6, .putfield 9, 3), (9, .return_, 1)]
set_option maxRecDepth 100000 in
theorem gv_4_0 : g_okc cX3_init gi_4_0 = true := by decide +kernel
def gi_4 : List (List (Nat × Instr × Nat)) := [gi_4_0]
theorem gv_4 : ∀ ch ∈ gi_4, g_okc cX3_init ch = true := List.forall_mem_cons.mpr ⟨gv_4_0, fun _ h => absurd h List.not_mem_nil⟩
def gi_5_0 : List (Nat × Instr × Nat) := [(0, .aload_n 0, 1), (1, .invokespecial 1, 3), (4, .aload_n 0, 1), (5, .new 7, 3), (8, .dup, 1), (9, .invokespecial 9, 3), (12, .putfield 10, 3), (15, .aload_n 0, 1), (16, .new 7, 3), (19, .dup, 1), (20, .invokespecial 9, 3), (23, .putfield 16, 3), (26, .aload_n 0, 1), (27, .bipush 10, 2), (29, .anewarray 19, 3)]
set_option maxRecDepth 100000 in
theorem gv_5_0 : g_okc cX5_init gi_5_0 = true := by decide +kernel
def gi_5_1 : List (Nat × Instr × Nat) := [(32, .putfield 21, 3), (35, .iconst 0, 1), (36, .istore_n 1, 1), (37, .iload_n 1, 1), (38, .bipush 10, 2), (40, .if_icmp .ge 22, 3), (43, .aload_n 0, 1), (44, .getfield 21, 3), (47, .iload_n 1, 1), (48, .new 19, 3), (51, .dup, 1), (52, .invokespecial 25, 3), (55, .aastore, 1), (56, .iinc 1 1, 3), (59, .goto (-22), 3), (62, .aload_n 0, 1), (63, .bipush 10, 2)]
set_option maxRecDepth 100000 in
theorem gv_5_1 : g_okc cX5_init gi_5_1 = true := by decide +kernel
def gi_5_2 : List (Nat × Instr × Nat) := [(65, .newarray .int, 2), (67, .putfield 26, 3), (70, .return_, 1)]
set_option maxRecDepth 100000 in
theorem gv_5_2 : g_okc cX5_init gi_5_2 = true := by decide +kernel
def gi_5 : List (List (Nat × Instr × Nat)) := [gi_5_0, gi_5_1, gi_5_2]
theorem gv_5 : ∀ ch ∈ gi_5, g_okc cX5_init ch = true := List.forall_mem_cons.mpr ⟨gv_5_0, List.forall_mem_cons.mpr ⟨gv_5_1, List.forall_mem_cons.mpr ⟨gv_5_2, fun _ h => absurd h List.not_mem_nil⟩⟩⟩
def gi_6_0 : List (Nat × Instr × Nat) := [(0, .aload_n 0, 1), (1, .invokespecial 1, 3), (4, .return_, 1)]
set_option maxRecDepth 100000 in
theorem gv_6_0 : g_okc cJxa1e45_init_da8c8 gi_6_0 = true := by decide +kernel
def gi_6 : List (List (Nat × Instr × Nat)) := [gi_6_0]
theorem gv_6 : ∀ ch ∈ gi_6, g_okc cJxa1e45_init_da8c8 ch = true := List.forall_mem_cons.mpr ⟨gv_6_0, fun _ h => absurd h List.not_mem_nil⟩
def gi_7_0 : List (Nat × Instr × Nat) := [(0, .aload_n 0, 1), (1, .invokespecial 1, 3), (4, .aload_n 0, 1), (5, .iconst 0, 1), (6, .putfield 7, 3), (9, .return_, 1)]
set_option maxRecDepth 100000 in
theorem gv_7_0 : g_okc cJxc12de_init_da8c8 gi_7_0 = true := by decide +kernel
def gi_7 : List (List (Nat × Instr × Nat)) := [gi_7_0]
theorem gv_7 : ∀ ch ∈ gi_7, g_okc cJxc12de_init_da8c8 ch = true := List.forall_mem_cons.mpr ⟨gv_7_0, fun _ h => absurd h List.not_mem_nil⟩
def gi_8_0 : List (Nat × Instr × Nat) := [(0, .aload_n 0, 1), (1, .invokespecial 1, 3), (4, .aload_n 0, 1), (5, .getstatic 39, 3), (8, .putfield 9, 3), (11, .return_, 1)]
set_option maxRecDepth 100000 in
theorem gv_8_0 : g_okc cJx4a65c_init_da8c8 gi_8_0 = true := by decide +kernel
def gi_8 : List (List (Nat × Instr × Nat)) := [gi_8_0]
theorem gv_8 : ∀ ch ∈ gi_8, g_okc cJx4a65c_init_da8c8 ch = true := List.forall_mem_cons.mpr ⟨gv_8_0, fun _ h => absurd h List.not_mem_nil⟩
def gi_9_0 : List (Nat × Instr × Nat) := [(0, .aload_n 0, 1), (1, .invokespecial 3, 3), (4, .aload_n 0, 1), (5, .new 9, 3), (8, .dup, 1), (9, .invokespecial 11, 3), (12, .putfield 12, 3), (15, .aload_n 0, 1), (16, .new 9, 3), (19, .dup, 1), (20, .invokespecial 11, 3), (23, .putfield 18, 3), (26, .aload_n 0, 1), (27, .bipush 6, 2), (29, .newarray .int, 2), (31, .putfield 21, 3)]
set_option maxRecDepth 100000 in
theorem gv_9_0 : g_okc cX6_init gi_9_0 = true := by decide +kernel
def gi_9_1 : List (Nat × Instr × Nat) := [(34, .aload_n 0, 1), (35, .iconst 2, 1), (36, .putfield 25, 3), (39, .aload_n 0, 1), (40, .iconst (-1), 1), (41, .putfield 29, 3), (44, .aload_n 0, 1), (45, .iconst (-1), 1), (46, .putfield 32, 3), (49, .return_, 1)]
set_option maxRecDepth 100000 in
theorem gv_9_1 : g_okc cX6_init gi_9_1 = true := by decide +kernel
def gi_9 : List (List (Nat × Instr × Nat)) := [gi_9_0, gi_9_1]
theorem gv_9 : ∀ ch ∈ gi_9, g_okc cX6_init ch = true := List.forall_mem_cons.mpr ⟨gv_9_0, List.forall_mem_cons.mpr ⟨gv_9_1, fun _ h => absurd h List.not_mem_nil⟩⟩
def gi_10_0 : List (Nat × Instr × Nat) := [(0, .aload_n 0, 1), (1, .invokespecial 1, 3), (4, .aload_n 0, 1), (5, .new 7, 3), (8, .dup, 1), (9, .invokespecial 9, 3), (12, .putfield 10, 3), (15, .aload_n 0, 1), (16, .new 16, 3), (19, .dup, 1), (20, .invokespecial 18, 3), (23, .putfield 19, 3), (26, .return_, 1)]
set_option maxRecDepth 100000 in
theorem gv_10_0 : g_okc cX7_init gi_10_0 = true := by decide +kernel
def gi_10 : List (List (Nat × Instr × Nat)) := [gi_10_0]
theorem gv_10 : ∀ ch ∈ gi_10, g_okc cX7_init ch = true := List.forall_mem_cons.mpr ⟨gv_10_0, fun _ h => absurd h List.not_mem_nil⟩
def gi_11_0 : List (Nat × Instr × Nat) := [(0, .iload_n 2, 1), (1, .bipush 10, 2), (3, .if_icmp .lt 10, 3), (6, .iload_n 2, 1), (7, .sipush 300, 3), (10, .if_icmp .le 13, 3), (13, .new 30, 3), (16, .dup, 1), (17, .ldc 32, 2), (19, .invokespecial 34, 3), (22, .athrow, 1), (23, .aload_n 0, 1), (24, .getfield 10, 3), (27, .getfield 37, 3), (30, .bipush 8, 2)]
set_option maxRecDepth 100000 in
theorem gv_11_0 : g_okc cX5_bar gi_11_0 = true := by decide +kernel
def gi_11_1 : List (Nat × Instr × Nat) := [(32, .if_icmp .lt 13, 3), (35, .new 41, 3), (38, .dup, 1), (39, .ldc 43, 2), (41, .invokespecial 45, 3), (44, .athrow, 1), (45, .aload_n 0, 1), (46, .getfield 10, 3), (49, .getfield 46, 3), (52, .aload_n 0, 1), (53, .getfield 10, 3), (56, .getfield 37, 3), (59, .aaload, 1), (60, .astore_n 3, 1), (61, .aload_n 3, 1), (62, .iload_n 1, 1), (63, .putfield 50, 3)]
set_option maxRecDepth 100000 in
theorem gv_11_1 : g_okc cX5_bar gi_11_1 = true := by decide +kernel
def gi_11_2 : List (Nat × Instr × Nat) := [(66, .aload_n 3, 1), (67, .iload_n 2, 1), (68, .putfield 56, 3), (71, .aload_n 0, 1), (72, .getfield 10, 3), (75, .dup, 1), (76, .getfield 37, 3), (79, .iconst 1, 1), (80, .iadd, 1), (81, .putfield 37, 3), (84, .aload_n 3, 1), (85, .getfield 59, 3), (88, .ireturn, 1)]
set_option maxRecDepth 100000 in
theorem gv_11_2 : g_okc cX5_bar gi_11_2 = true := by decide +kernel
def gi_11 : List (List (Nat × Instr × Nat)) := [gi_11_0, gi_11_1, gi_11_2]
theorem gv_11 : ∀ ch ∈ gi_11, g_okc cX5_bar ch = true := List.forall_mem_cons.mpr ⟨gv_11_0, List.forall_mem_cons.mpr ⟨gv_11_1, List.forall_mem_cons.mpr ⟨gv_11_2, fun _ h => absurd h List.not_mem_nil⟩⟩⟩
def gi_12_0 : List (Nat × Instr × Nat) := [(0, .aload_n 3, 1), (1, .iconst 0, 1), (2, .aload_n 0, 1), (3, .iload_n 1, 1), (4, .iload_n 2, 1), (5, .invokevirtual 7, 3), (8, .i2l, 1), (9, .lastore, 1), (10, .goto 11, 3), (13, .astore 4, 2), (15, .iconst 1, 1), (16, .ireturn, 1), (17, .astore 4, 2), (19, .iconst 2, 1), (20, .ireturn, 1), (21, .iconst 0, 1), (22, .ireturn, 1)]
set_option maxRecDepth 100000 in
theorem gv_12_0 : g_okc cL_bar gi_12_0 = true := by decide +kernel
def gi_12 : List (List (Nat × Instr × Nat)) := [gi_12_0]
theorem gv_12 : ∀ ch ∈ gi_12, g_okc cL_bar ch = true := List.forall_mem_cons.mpr ⟨gv_12_0, fun _ h => absurd h List.not_mem_nil⟩
def gi_13_0 : List (Nat × Instr × Nat) := [(0, .iload_n 0, 1), (1, .iload_n 1, 1), (2, .if_icmp .lt 12, 3), (5, .iload_n 0, 1), (6, .iload_n 2, 1), (7, .if_icmp .gt 7, 3), (10, .iconst 1, 1), (11, .goto 4, 3), (14, .iconst 0, 1), (15, .ireturn, 1)]
set_option maxRecDepth 100000 in
theorem gv_13_0 : g_okc cX7_is gi_13_0 = true := by decide +kernel
def gi_13 : List (List (Nat × Instr × Nat)) := [gi_13_0]
theorem gv_13 : ∀ ch ∈ gi_13, g_okc cX7_is ch = true := List.forall_mem_cons.mpr ⟨gv_13_0, fun _ h => absurd h List.not_mem_nil⟩
def gi_14_0 : List (Nat × Instr × Nat) := [(0, .aload_n 0, 1), (1, .iload_n 1, 1), (2, .putfield 23, 3), (5, .iconst 0, 1), (6, .ireturn, 1)]
set_option maxRecDepth 100000 in
theorem gv_14_0 : g_okc cX7_refuse gi_14_0 = true := by decide +kernel
def gi_14 : List (List (Nat × Instr × Nat)) := [gi_14_0]
theorem gv_14 : ∀ ch ∈ gi_14, g_okc cX7_refuse ch = true := List.forall_mem_cons.mpr ⟨gv_14_0, fun _ h => absurd h List.not_mem_nil⟩
def gi_15_0 : List (Nat × Instr × Nat) := [(0, .aload_n 0, 1), (1, .getfield 48, 3), (4, .ireturn, 1)]
set_option maxRecDepth 100000 in
theorem gv_15_0 : g_okc cJx4a65c_size_8abf5 gi_15_0 = true := by decide +kernel
def gi_15 : List (List (Nat × Instr × Nat)) := [gi_15_0]
theorem gv_15 : ∀ ch ∈ gi_15, g_okc cJx4a65c_size_8abf5 ch = true := List.forall_mem_cons.mpr ⟨gv_15_0, fun _ h => absurd h List.not_mem_nil⟩
def gi_16_0 : List (Nat × Instr × Nat) := [(0, .iload_n 0, 1), (1, .iload_n 1, 1), (2, .iadd, 1), (3, .istore_n 2, 1), (4, .iload_n 2, 1), (5, .ifCond .ge 44, 3), (8, .new 204, 3), (11, .dup, 1), (12, .new 89, 3), (15, .dup, 1), (16, .invokespecial 91, 3), (19, .ldc 206, 2), (21, .invokevirtual 94, 3), (24, .iload_n 0, 1), (25, .invokevirtual 98, 3), (28, .ldc 208, 2), (30, .invokevirtual 94, 3)]
set_option maxRecDepth 100000 in
theorem gv_16_0 : g_okc cJ8_hugeLength_7cf53 gi_16_0 = true := by decide +kernel
def gi_16_1 : List (Nat × Instr × Nat) := [(33, .iload_n 1, 1), (34, .invokevirtual 98, 3), (37, .ldc 210, 2), (39, .invokevirtual 94, 3), (42, .invokevirtual 101, 3), (45, .invokespecial 212, 3), (48, .athrow, 1), (49, .iload_n 2, 1), (50, .ldc 200, 2), (52, .if_icmp .gt 6, 3), (55, .ldc 200, 2), (57, .ireturn, 1), (58, .iload_n 2, 1), (59, .ireturn, 1)]
set_option maxRecDepth 100000 in
theorem gv_16_1 : g_okc cJ8_hugeLength_7cf53 gi_16_1 = true := by decide +kernel
def gi_16 : List (List (Nat × Instr × Nat)) := [gi_16_0, gi_16_1]
theorem gv_16 : ∀ ch ∈ gi_16, g_okc cJ8_hugeLength_7cf53 ch = true := List.forall_mem_cons.mpr ⟨gv_16_0, List.forall_mem_cons.mpr ⟨gv_16_1, fun _ h => absurd h List.not_mem_nil⟩⟩
def gi_17_0 : List (Nat × Instr × Nat) := [(0, .iload_n 0, 1), (1, .iload_n 1, 1), (2, .iload_n 2, 1), (3, .invokestatic 194, 3), (6, .iadd, 1), (7, .istore_n 3, 1), (8, .iconst 0, 1), (9, .iload_n 3, 1), (10, .if_icmp .ge 11, 3), (13, .iload_n 3, 1), (14, .ldc 200, 2), (16, .if_icmp .gt 5, 3), (19, .iload_n 3, 1), (20, .ireturn, 1), (21, .iload_n 0, 1), (22, .iload_n 1, 1), (23, .invokestatic 201, 3), (26, .ireturn, 1)]
set_option maxRecDepth 100000 in
theorem gv_17_0 : g_okc cJ8_newLength_cabcc gi_17_0 = true := by decide +kernel
def gi_17 : List (List (Nat × Instr × Nat)) := [gi_17_0]
theorem gv_17 : ∀ ch ∈ gi_17, g_okc cJ8_newLength_cabcc ch = true := List.forall_mem_cons.mpr ⟨gv_17_0, fun _ h => absurd h List.not_mem_nil⟩
def gi_18_0 : List (Nat × Instr × Nat) := [(0, .aload_n 2, 1), (1, .ldc 110, 2), (3, .if_acmp .ne 10, 3), (6, .iload_n 1, 1), (7, .anewarray 2, 3), (10, .goto 14, 3), (13, .aload_n 2, 1), (14, .invokevirtual 90, 3), (17, .iload_n 1, 1), (18, .invokestatic 95, 3), (21, .checkcast 110, 3), (24, .astore_n 3, 1), (25, .aload_n 0, 1), (26, .iconst 0, 1), (27, .aload_n 3, 1), (28, .iconst 0, 1), (29, .aload_n 0, 1), (30, .arraylength, 1), (31, .iload_n 1, 1)]
set_option maxRecDepth 100000 in
theorem gv_18_0 : g_okc cJ7_copyOf_6403c gi_18_0 = true := by decide +kernel
def gi_18_1 : List (Nat × Instr × Nat) := [(32, .invokestatic 304, 3), (35, .invokestatic 150, 3), (38, .aload_n 3, 1), (39, .areturn, 1)]
set_option maxRecDepth 100000 in
theorem gv_18_1 : g_okc cJ7_copyOf_6403c gi_18_1 = true := by decide +kernel
def gi_18 : List (List (Nat × Instr × Nat)) := [gi_18_0, gi_18_1]
theorem gv_18 : ∀ ch ∈ gi_18, g_okc cJ7_copyOf_6403c ch = true := List.forall_mem_cons.mpr ⟨gv_18_0, List.forall_mem_cons.mpr ⟨gv_18_1, fun _ h => absurd h List.not_mem_nil⟩⟩
def gi_19_0 : List (Nat × Instr × Nat) := [(0, .aload_n 0, 1), (1, .iload_n 1, 1), (2, .aload_n 0, 1), (3, .invokevirtual 86, 3), (6, .invokestatic 300, 3), (9, .areturn, 1)]
set_option maxRecDepth 100000 in
theorem gv_19_0 : g_okc cJ7_copyOf_1904c gi_19_0 = true := by decide +kernel
def gi_19 : List (List (Nat × Instr × Nat)) := [gi_19_0]
theorem gv_19 : ∀ ch ∈ gi_19, g_okc cJ7_copyOf_1904c ch = true := List.forall_mem_cons.mpr ⟨gv_19_0, fun _ h => absurd h List.not_mem_nil⟩
def gi_20_0 : List (Nat × Instr × Nat) := [(0, .aload_n 0, 1), (1, .getfield 9, 3), (4, .arraylength, 1), (5, .istore_n 2, 1), (6, .iload_n 2, 1), (7, .ifCond .gt 13, 3), (10, .aload_n 0, 1), (11, .getfield 9, 3), (14, .getstatic 39, 3), (17, .if_acmp .eq 28, 3), (20, .iload_n 2, 1), (21, .iload_n 1, 1), (22, .iload_n 2, 1), (23, .isub, 1), (24, .iload_n 2, 1), (25, .iconst 1, 1), (26, .ishr, 1), (27, .invokestatic 73, 3), (30, .istore_n 3, 1), (31, .aload_n 0, 1)]
set_option maxRecDepth 100000 in
theorem gv_20_0 : g_okc cJx4a65c_grow_92f84 gi_20_0 = true := by decide +kernel
def gi_20_1 : List (Nat × Instr × Nat) := [(32, .aload_n 0, 1), (33, .getfield 9, 3), (36, .iload_n 3, 1), (37, .invokestatic 66, 3), (40, .dup_x1, 1), (41, .putfield 9, 3), (44, .areturn, 1), (45, .aload_n 0, 1), (46, .bipush 10, 2), (48, .iload_n 1, 1), (49, .invokestatic 79, 3), (52, .anewarray 7, 3), (55, .dup_x1, 1), (56, .putfield 9, 3), (59, .areturn, 1)]
set_option maxRecDepth 100000 in
theorem gv_20_1 : g_okc cJx4a65c_grow_92f84 gi_20_1 = true := by decide +kernel
def gi_20 : List (List (Nat × Instr × Nat)) := [gi_20_0, gi_20_1]
theorem gv_20 : ∀ ch ∈ gi_20, g_okc cJx4a65c_grow_92f84 ch = true := List.forall_mem_cons.mpr ⟨gv_20_0, List.forall_mem_cons.mpr ⟨gv_20_1, fun _ h => absurd h List.not_mem_nil⟩⟩
def gi_21_0 : List (Nat × Instr × Nat) := [(0, .aload_n 0, 1), (1, .aload_n 0, 1), (2, .getfield 48, 3), (5, .iconst 1, 1), (6, .iadd, 1), (7, .invokevirtual 69, 3), (10, .areturn, 1)]
set_option maxRecDepth 100000 in
theorem gv_21_0 : g_okc cJx4a65c_grow_d5877 gi_21_0 = true := by decide +kernel
def gi_21 : List (List (Nat × Instr × Nat)) := [gi_21_0]
theorem gv_21 : ∀ ch ∈ gi_21, g_okc cJx4a65c_grow_d5877 ch = true := List.forall_mem_cons.mpr ⟨gv_21_0, fun _ h => absurd h List.not_mem_nil⟩
def gi_22_0 : List (Nat × Instr × Nat) := [(0, .iload_n 3, 1), (1, .aload_n 2, 1), (2, .arraylength, 1), (3, .if_icmp .ne 8, 3), (6, .aload_n 0, 1), (7, .invokevirtual 129, 3), (10, .astore_n 2, 1), (11, .aload_n 2, 1), (12, .iload_n 3, 1), (13, .aload_n 1, 1), (14, .aastore, 1), (15, .aload_n 0, 1), (16, .iload_n 3, 1), (17, .iconst 1, 1), (18, .iadd, 1), (19, .putfield 48, 3), (22, .return_, 1)]
set_option maxRecDepth 100000 in
theorem gv_22_0 : g_okc cJx4a65c_add_72be8 gi_22_0 = true := by decide +kernel
def gi_22 : List (List (Nat × Instr × Nat)) := [gi_22_0]
theorem gv_22 : ∀ ch ∈ gi_22, g_okc cJx4a65c_add_72be8 ch = true := List.forall_mem_cons.mpr ⟨gv_22_0, fun _ h => absurd h List.not_mem_nil⟩
def gi_23_0 : List (Nat × Instr × Nat) := [(0, .aload_n 0, 1), (1, .dup, 1), (2, .getfield 63, 3), (5, .iconst 1, 1), (6, .iadd, 1), (7, .putfield 63, 3), (10, .aload_n 0, 1), (11, .aload_n 1, 1), (12, .aload_n 0, 1), (13, .getfield 9, 3), (16, .aload_n 0, 1), (17, .getfield 48, 3), (20, .invokevirtual 131, 3), (23, .iconst 1, 1), (24, .ireturn, 1)]
set_option maxRecDepth 100000 in
theorem gv_23_0 : g_okc cJx4a65c_add_9ea2d gi_23_0 = true := by decide +kernel
def gi_23 : List (List (Nat × Instr × Nat)) := [gi_23_0]
theorem gv_23 : ∀ ch ∈ gi_23, g_okc cJx4a65c_add_9ea2d ch = true := List.forall_mem_cons.mpr ⟨gv_23_0, fun _ h => absurd h List.not_mem_nil⟩
def gi_24_0 : List (Nat × Instr × Nat) := [(0, .aload_n 0, 1), (1, .iconst 0, 1), (2, .putfield 23, 3), (5, .iload_n 2, 1), (6, .bipush 10, 2), (8, .sipush 300, 3), (11, .invokestatic 34, 3), (14, .ifCond .ne 9, 3), (17, .aload_n 0, 1), (18, .iconst 1, 1), (19, .invokevirtual 41, 3), (22, .ireturn, 1), (23, .aload_n 0, 1), (24, .getfield 19, 3), (27, .getfield 27, 3), (30, .invokevirtual 30, 3)]
set_option maxRecDepth 100000 in
theorem gv_24_0 : g_okc cX7_bar gi_24_0 = true := by decide +kernel
def gi_24_1 : List (Nat × Instr × Nat) := [(33, .bipush 8, 2), (35, .if_icmp .ne 9, 3), (38, .aload_n 0, 1), (39, .iconst 2, 1), (40, .invokevirtual 41, 3), (43, .ireturn, 1), (44, .bipush 12, 2), (46, .newarray .int, 2), (48, .astore_n 3, 1), (49, .aload_n 3, 1), (50, .iconst 0, 1), (51, .iload_n 1, 1), (52, .ifCond .eq 7, 3), (55, .iconst 1, 1), (56, .goto 4, 3), (59, .iconst 0, 1), (60, .iastore, 1), (61, .aload_n 3, 1), (62, .iconst 1, 1), (63, .iload_n 2, 1)]
set_option maxRecDepth 100000 in
theorem gv_24_1 : g_okc cX7_bar gi_24_1 = true := by decide +kernel
def gi_24_2 : List (Nat × Instr × Nat) := [(64, .iastore, 1), (65, .aload_n 3, 1), (66, .iconst 5, 1), (67, .iconst 1, 1), (68, .iastore, 1), (69, .aload_n 0, 1), (70, .getfield 19, 3), (73, .getfield 27, 3), (76, .aload_n 3, 1), (77, .invokevirtual 45, 3), (80, .pop, 1), (81, .aload_n 0, 1), (82, .getfield 19, 3), (85, .getfield 27, 3), (88, .invokevirtual 30, 3), (91, .iconst 1, 1), (92, .isub, 1), (93, .ireturn, 1)]
set_option maxRecDepth 100000 in
theorem gv_24_2 : g_okc cX7_bar gi_24_2 = true := by decide +kernel
def gi_24 : List (List (Nat × Instr × Nat)) := [gi_24_0, gi_24_1, gi_24_2]
theorem gv_24 : ∀ ch ∈ gi_24, g_okc cX7_bar ch = true := List.forall_mem_cons.mpr ⟨gv_24_0, List.forall_mem_cons.mpr ⟨gv_24_1, List.forall_mem_cons.mpr ⟨gv_24_2, fun _ h => absurd h List.not_mem_nil⟩⟩⟩
def gi_25_0 : List (Nat × Instr × Nat) := [(0, .aload_n 0, 1), (1, .getfield 23, 3), (4, .ireturn, 1)]
set_option maxRecDepth 100000 in
theorem gv_25_0 : g_okc cX7_thrown gi_25_0 = true := by decide +kernel
def gi_25 : List (List (Nat × Instr × Nat)) := [gi_25_0]
theorem gv_25 : ∀ ch ∈ gi_25, g_okc cX7_thrown ch = true := List.forall_mem_cons.mpr ⟨gv_25_0, fun _ h => absurd h List.not_mem_nil⟩
def gi_26_0 : List (Nat × Instr × Nat) := [(0, .iload_n 1, 1), (1, .iconst 1, 1), (2, .if_icmp .lt 9, 3), (5, .iload_n 1, 1), (6, .bipush 90, 2), (8, .if_icmp .le 13, 3), (11, .new 30, 3), (14, .dup, 1), (15, .ldc 62, 2), (17, .invokespecial 34, 3), (20, .athrow, 1), (21, .iload_n 2, 1), (22, .ifCond .lt 9, 3), (25, .iload_n 2, 1), (26, .bipush 60, 2), (28, .if_icmp .le 13, 3), (31, .new 30, 3)]
set_option maxRecDepth 100000 in
theorem gv_26_0 : g_okc cX5_piece gi_26_0 = true := by decide +kernel
def gi_26_1 : List (Nat × Instr × Nat) := [(34, .dup, 1), (35, .ldc 64, 2), (37, .invokespecial 34, 3), (40, .athrow, 1), (41, .iload_n 3, 1), (42, .ifCond .lt 8, 3), (45, .iload_n 3, 1), (46, .iconst 2, 1), (47, .if_icmp .le 13, 3), (50, .new 30, 3), (53, .dup, 1), (54, .ldc 66, 2), (56, .invokespecial 34, 3), (59, .athrow, 1), (60, .aload_n 0, 1), (61, .getfield 68, 3)]
set_option maxRecDepth 100000 in
theorem gv_26_1 : g_okc cX5_piece gi_26_1 = true := by decide +kernel
def gi_26_2 : List (Nat × Instr × Nat) := [(64, .bipush 10, 2), (66, .if_icmp .lt 13, 3), (69, .new 41, 3), (72, .dup, 1), (73, .ldc 71, 2), (75, .invokespecial 45, 3), (78, .athrow, 1), (79, .aload_n 0, 1), (80, .getfield 21, 3), (83, .aload_n 0, 1), (84, .getfield 68, 3), (87, .aaload, 1), (88, .astore 4, 2), (90, .aload 4, 2), (92, .iload_n 1, 1), (93, .putfield 73, 3)]
set_option maxRecDepth 100000 in
theorem gv_26_2 : g_okc cX5_piece gi_26_2 = true := by decide +kernel
def gi_26_3 : List (Nat × Instr × Nat) := [(96, .aload 4, 2), (98, .iload_n 2, 1), (99, .putfield 76, 3), (102, .aload 4, 2), (104, .iload_n 3, 1), (105, .putfield 79, 3), (108, .aload_n 0, 1), (109, .dup, 1), (110, .getfield 68, 3), (113, .dup_x1, 1), (114, .iconst 1, 1), (115, .iadd, 1), (116, .putfield 68, 3), (119, .ireturn, 1)]
set_option maxRecDepth 100000 in
theorem gv_26_3 : g_okc cX5_piece gi_26_3 = true := by decide +kernel
def gi_26 : List (List (Nat × Instr × Nat)) := [gi_26_0, gi_26_1, gi_26_2, gi_26_3]
theorem gv_26 : ∀ ch ∈ gi_26, g_okc cX5_piece ch = true := List.forall_mem_cons.mpr ⟨gv_26_0, List.forall_mem_cons.mpr ⟨gv_26_1, List.forall_mem_cons.mpr ⟨gv_26_2, List.forall_mem_cons.mpr ⟨gv_26_3, fun _ h => absurd h List.not_mem_nil⟩⟩⟩⟩
def gi_27_0 : List (Nat × Instr × Nat) := [(0, .aload 4, 2), (2, .iconst 0, 1), (3, .aload_n 0, 1), (4, .iload_n 1, 1), (5, .iload_n 2, 1), (6, .iload_n 3, 1), (7, .invokevirtual 17, 3), (10, .i2l, 1), (11, .lastore, 1), (12, .goto 11, 3), (15, .astore 5, 2), (17, .iconst 1, 1), (18, .ireturn, 1), (19, .astore 5, 2), (21, .iconst 2, 1), (22, .ireturn, 1), (23, .iconst 0, 1), (24, .ireturn, 1)]
set_option maxRecDepth 100000 in
theorem gv_27_0 : g_okc cL_piece gi_27_0 = true := by decide +kernel
def gi_27 : List (List (Nat × Instr × Nat)) := [gi_27_0]
theorem gv_27 : ∀ ch ∈ gi_27, g_okc cL_piece ch = true := List.forall_mem_cons.mpr ⟨gv_27_0, fun _ h => absurd h List.not_mem_nil⟩
def gi_28_0 : List (Nat × Instr × Nat) := [(0, .aload_n 0, 1), (1, .iconst 0, 1), (2, .putfield 23, 3), (5, .iload_n 1, 1), (6, .iconst 1, 1), (7, .bipush 90, 2), (9, .invokestatic 34, 3), (12, .ifCond .eq 22, 3), (15, .iload_n 2, 1), (16, .iconst 0, 1), (17, .bipush 60, 2), (19, .invokestatic 34, 3), (22, .ifCond .eq 12, 3), (25, .iload_n 3, 1), (26, .iconst 0, 1), (27, .iconst 2, 1), (28, .invokestatic 34, 3), (31, .ifCond .ne 9, 3)]
set_option maxRecDepth 100000 in
theorem gv_28_0 : g_okc cX7_piece gi_28_0 = true := by decide +kernel
def gi_28_1 : List (Nat × Instr × Nat) := [(34, .aload_n 0, 1), (35, .iconst 1, 1), (36, .invokevirtual 41, 3), (39, .ireturn, 1), (40, .aload_n 0, 1), (41, .getfield 10, 3), (44, .invokevirtual 30, 3), (47, .bipush 10, 2), (49, .if_icmp .ne 9, 3), (52, .aload_n 0, 1), (53, .iconst 2, 1), (54, .invokevirtual 41, 3), (57, .ireturn, 1), (58, .iconst 4, 1), (59, .newarray .int, 2), (61, .dup, 1), (62, .iconst 0, 1), (63, .iload_n 1, 1)]
set_option maxRecDepth 100000 in
theorem gv_28_1 : g_okc cX7_piece gi_28_1 = true := by decide +kernel
def gi_28_2 : List (Nat × Instr × Nat) := [(64, .iastore, 1), (65, .dup, 1), (66, .iconst 1, 1), (67, .iload_n 2, 1), (68, .iastore, 1), (69, .dup, 1), (70, .iconst 2, 1), (71, .iload_n 3, 1), (72, .iastore, 1), (73, .dup, 1), (74, .iconst 3, 1), (75, .iconst (-1), 1), (76, .iastore, 1), (77, .astore 4, 2), (79, .aload_n 0, 1), (80, .getfield 10, 3), (83, .aload 4, 2), (85, .invokevirtual 45, 3), (88, .pop, 1), (89, .aload_n 0, 1), (90, .getfield 10, 3), (93, .invokevirtual 30, 3)]
set_option maxRecDepth 100000 in
theorem gv_28_2 : g_okc cX7_piece gi_28_2 = true := by decide +kernel
def gi_28_3 : List (Nat × Instr × Nat) := [(96, .iconst 1, 1), (97, .isub, 1), (98, .ireturn, 1)]
set_option maxRecDepth 100000 in
theorem gv_28_3 : g_okc cX7_piece gi_28_3 = true := by decide +kernel
def gi_28 : List (List (Nat × Instr × Nat)) := [gi_28_0, gi_28_1, gi_28_2, gi_28_3]
theorem gv_28 : ∀ ch ∈ gi_28, g_okc cX7_piece ch = true := List.forall_mem_cons.mpr ⟨gv_28_0, List.forall_mem_cons.mpr ⟨gv_28_1, List.forall_mem_cons.mpr ⟨gv_28_2, List.forall_mem_cons.mpr ⟨gv_28_3, fun _ h => absurd h List.not_mem_nil⟩⟩⟩⟩
def gi_29_0 : List (Nat × Instr × Nat) := [(0, .iload_n 1, 1), (1, .iconst (-1), 1), (2, .if_icmp .lt 9, 3), (5, .iload_n 1, 1), (6, .bipush 6, 2), (8, .if_icmp .lt 13, 3), (11, .new 30, 3), (14, .dup, 1), (15, .ldc 82, 2), (17, .invokespecial 34, 3), (20, .athrow, 1), (21, .aload_n 0, 1), (22, .getfield 10, 3), (25, .getfield 84, 3), (28, .bipush 6, 2), (30, .if_icmp .lt 13, 3)]
set_option maxRecDepth 100000 in
theorem gv_29_0 : g_okc cX5_cue gi_29_0 = true := by decide +kernel
def gi_29_1 : List (Nat × Instr × Nat) := [(33, .new 41, 3), (36, .dup, 1), (37, .ldc 87, 2), (39, .invokespecial 45, 3), (42, .athrow, 1), (43, .aload_n 0, 1), (44, .getfield 10, 3), (47, .getfield 89, 3), (50, .aload_n 0, 1), (51, .getfield 10, 3), (54, .getfield 84, 3), (57, .aaload, 1), (58, .iload_n 1, 1), (59, .putfield 93, 3), (62, .aload_n 0, 1), (63, .getfield 10, 3)]
set_option maxRecDepth 100000 in
theorem gv_29_1 : g_okc cX5_cue gi_29_1 = true := by decide +kernel
def gi_29_2 : List (Nat × Instr × Nat) := [(66, .dup, 1), (67, .getfield 84, 3), (70, .dup_x1, 1), (71, .iconst 1, 1), (72, .iadd, 1), (73, .putfield 84, 3), (76, .ireturn, 1)]
set_option maxRecDepth 100000 in
theorem gv_29_2 : g_okc cX5_cue gi_29_2 = true := by decide +kernel
def gi_29 : List (List (Nat × Instr × Nat)) := [gi_29_0, gi_29_1, gi_29_2]
theorem gv_29 : ∀ ch ∈ gi_29, g_okc cX5_cue ch = true := List.forall_mem_cons.mpr ⟨gv_29_0, List.forall_mem_cons.mpr ⟨gv_29_1, List.forall_mem_cons.mpr ⟨gv_29_2, fun _ h => absurd h List.not_mem_nil⟩⟩⟩
def gi_30_0 : List (Nat × Instr × Nat) := [(0, .aload_n 2, 1), (1, .iconst 0, 1), (2, .aload_n 0, 1), (3, .iload_n 1, 1), (4, .invokevirtual 21, 3), (7, .i2l, 1), (8, .lastore, 1), (9, .goto 9, 3), (12, .astore_n 3, 1), (13, .iconst 1, 1), (14, .ireturn, 1), (15, .astore_n 3, 1), (16, .iconst 2, 1), (17, .ireturn, 1), (18, .iconst 0, 1), (19, .ireturn, 1)]
set_option maxRecDepth 100000 in
theorem gv_30_0 : g_okc cL_cue gi_30_0 = true := by decide +kernel
def gi_30 : List (List (Nat × Instr × Nat)) := [gi_30_0]
theorem gv_30 : ∀ ch ∈ gi_30, g_okc cL_cue ch = true := List.forall_mem_cons.mpr ⟨gv_30_0, fun _ h => absurd h List.not_mem_nil⟩
def gi_31_0 : List (Nat × Instr × Nat) := [(0, .aload_n 0, 1), (1, .iconst 0, 1), (2, .putfield 23, 3), (5, .iload_n 1, 1), (6, .iconst (-1), 1), (7, .iconst 5, 1), (8, .invokestatic 34, 3), (11, .ifCond .ne 9, 3), (14, .aload_n 0, 1), (15, .iconst 1, 1), (16, .invokevirtual 41, 3), (19, .ireturn, 1), (20, .aload_n 0, 1), (21, .getfield 19, 3), (24, .getfield 38, 3), (27, .invokevirtual 30, 3), (30, .bipush 6, 2)]
set_option maxRecDepth 100000 in
theorem gv_31_0 : g_okc cX7_cue gi_31_0 = true := by decide +kernel
def gi_31_1 : List (Nat × Instr × Nat) := [(32, .if_icmp .ne 9, 3), (35, .aload_n 0, 1), (36, .iconst 2, 1), (37, .invokevirtual 41, 3), (40, .ireturn, 1), (41, .aload_n 0, 1), (42, .getfield 19, 3), (45, .getfield 49, 3), (48, .aload_n 0, 1), (49, .getfield 19, 3), (52, .getfield 38, 3), (55, .invokevirtual 30, 3), (58, .iload_n 1, 1), (59, .iastore, 1), (60, .aload_n 0, 1), (61, .getfield 19, 3)]
set_option maxRecDepth 100000 in
theorem gv_31_1 : g_okc cX7_cue gi_31_1 = true := by decide +kernel
def gi_31_2 : List (Nat × Instr × Nat) := [(64, .getfield 38, 3), (67, .new 7, 3), (70, .dup, 1), (71, .invokespecial 9, 3), (74, .invokevirtual 45, 3), (77, .pop, 1), (78, .aload_n 0, 1), (79, .getfield 19, 3), (82, .getfield 38, 3), (85, .invokevirtual 30, 3), (88, .iconst 1, 1), (89, .isub, 1), (90, .ireturn, 1)]
set_option maxRecDepth 100000 in
theorem gv_31_2 : g_okc cX7_cue gi_31_2 = true := by decide +kernel
def gi_31 : List (List (Nat × Instr × Nat)) := [gi_31_0, gi_31_1, gi_31_2]
theorem gv_31 : ∀ ch ∈ gi_31, g_okc cX7_cue ch = true := List.forall_mem_cons.mpr ⟨gv_31_0, List.forall_mem_cons.mpr ⟨gv_31_1, List.forall_mem_cons.mpr ⟨gv_31_2, fun _ h => absurd h List.not_mem_nil⟩⟩⟩
def gi_32_0 : List (Nat × Instr × Nat) := [(0, .iload_n 1, 1), (1, .ifCond .lt 11, 3), (4, .iload_n 1, 1), (5, .aload_n 0, 1), (6, .getfield 44, 3), (9, .if_icmp .lt 13, 3), (12, .new 84, 3), (15, .dup, 1), (16, .ldc 91, 2), (18, .invokespecial 88, 3), (21, .athrow, 1), (22, .aload_n 0, 1), (23, .getfield 32, 3), (26, .iload_n 1, 1), (27, .aaload, 1), (28, .areturn, 1)]
set_option maxRecDepth 100000 in
theorem gv_32_0 : g_okc cX4_cueAt gi_32_0 = true := by decide +kernel
def gi_32 : List (List (Nat × Instr × Nat)) := [gi_32_0]
theorem gv_32 : ∀ ch ∈ gi_32, g_okc cX4_cueAt ch = true := List.forall_mem_cons.mpr ⟨gv_32_0, fun _ h => absurd h List.not_mem_nil⟩
def gi_33_0 : List (Nat × Instr × Nat) := [(0, .iload_n 1, 1), (1, .ifCond .lt 11, 3), (4, .iload_n 1, 1), (5, .aload_n 0, 1), (6, .getfield 37, 3), (9, .if_icmp .lt 13, 3), (12, .new 84, 3), (15, .dup, 1), (16, .ldc 86, 2), (18, .invokespecial 88, 3), (21, .athrow, 1), (22, .aload_n 0, 1), (23, .getfield 23, 3), (26, .iload_n 1, 1), (27, .aaload, 1), (28, .areturn, 1)]
set_option maxRecDepth 100000 in
theorem gv_33_0 : g_okc cX4_barAt gi_33_0 = true := by decide +kernel
def gi_33 : List (List (Nat × Instr × Nat)) := [gi_33_0]
theorem gv_33 : ∀ ch ∈ gi_33, g_okc cX4_barAt ch = true := List.forall_mem_cons.mpr ⟨gv_33_0, fun _ h => absurd h List.not_mem_nil⟩
def gi_34_0 : List (Nat × Instr × Nat) := [(0, .iconst 0, 1), (1, .istore_n 2, 1), (2, .iload_n 2, 1), (3, .aload_n 0, 1), (4, .getfield 22, 3), (7, .if_icmp .ge 24, 3), (10, .aload_n 0, 1), (11, .getfield 17, 3), (14, .iload_n 2, 1), (15, .aaload, 1), (16, .getfield 36, 3), (19, .iload_n 1, 1), (20, .if_icmp .ne 5, 3), (23, .iconst 1, 1), (24, .ireturn, 1), (25, .iinc 2 1, 3), (28, .goto (-26), 3), (31, .iconst 0, 1)]
set_option maxRecDepth 100000 in
theorem gv_34_0 : g_okc cX1_hasMoveOf gi_34_0 = true := by decide +kernel
def gi_34_1 : List (Nat × Instr × Nat) := [(32, .ireturn, 1)]
set_option maxRecDepth 100000 in
theorem gv_34_1 : g_okc cX1_hasMoveOf gi_34_1 = true := by decide +kernel
def gi_34 : List (List (Nat × Instr × Nat)) := [gi_34_0, gi_34_1]
theorem gv_34 : ∀ ch ∈ gi_34, g_okc cX1_hasMoveOf ch = true := List.forall_mem_cons.mpr ⟨gv_34_0, List.forall_mem_cons.mpr ⟨gv_34_1, fun _ h => absurd h List.not_mem_nil⟩⟩
def gi_35_0 : List (Nat × Instr × Nat) := [(0, .aload_n 0, 1), (1, .getfield 10, 3), (4, .iload_n 1, 1), (5, .invokevirtual 98, 3), (8, .astore 6, 2), (10, .aload_n 0, 1), (11, .getfield 10, 3), (14, .iload_n 2, 1), (15, .invokevirtual 102, 3), (18, .astore 7, 2), (20, .iload_n 3, 1), (21, .ifCond .lt 9, 3), (24, .iload_n 3, 1), (25, .bipush 120, 2), (27, .if_icmp .le 13, 3), (30, .new 30, 3)]
set_option maxRecDepth 100000 in
theorem gv_35_0 : g_okc cX5_move gi_35_0 = true := by decide +kernel
def gi_35_1 : List (Nat × Instr × Nat) := [(33, .dup, 1), (34, .ldc 106, 2), (36, .invokespecial 34, 3), (39, .athrow, 1), (40, .iload 4, 2), (42, .iconst 1, 1), (43, .if_icmp .lt 10, 3), (46, .iload 4, 2), (48, .bipush 6, 2), (50, .if_icmp .le 13, 3), (53, .new 30, 3), (56, .dup, 1), (57, .ldc 108, 2), (59, .invokespecial 34, 3), (62, .athrow, 1), (63, .iload 5, 2)]
set_option maxRecDepth 100000 in
theorem gv_35_1 : g_okc cX5_move gi_35_1 = true := by decide +kernel
def gi_35_2 : List (Nat × Instr × Nat) := [(65, .ifCond .lt 10, 3), (68, .iload 5, 2), (70, .bipush 20, 2), (72, .if_icmp .le 13, 3), (75, .new 30, 3), (78, .dup, 1), (79, .ldc 110, 2), (81, .invokespecial 34, 3), (84, .athrow, 1), (85, .aload_n 0, 1), (86, .getfield 10, 3), (89, .getfield 112, 3), (92, .iload_n 1, 1), (93, .if_icmp .ne 13, 3)]
set_option maxRecDepth 100000 in
theorem gv_35_2 : g_okc cX5_move gi_35_2 = true := by decide +kernel
def gi_35_3 : List (Nat × Instr × Nat) := [(96, .new 41, 3), (99, .dup, 1), (100, .ldc 115, 2), (102, .invokespecial 45, 3), (105, .athrow, 1), (106, .aload 6, 2), (108, .getfield 117, 3), (111, .bipush 6, 2), (113, .if_icmp .lt 13, 3), (116, .new 41, 3), (119, .dup, 1), (120, .ldc 120, 2), (122, .invokespecial 45, 3), (125, .athrow, 1), (126, .aload 6, 2)]
set_option maxRecDepth 100000 in
theorem gv_35_3 : g_okc cX5_move gi_35_3 = true := by decide +kernel
def gi_35_4 : List (Nat × Instr × Nat) := [(128, .aload 7, 2), (130, .getfield 59, 3), (133, .invokevirtual 122, 3), (136, .ifCond .eq 13, 3), (139, .new 41, 3), (142, .dup, 1), (143, .ldc 126, 2), (145, .invokespecial 45, 3), (148, .athrow, 1), (149, .aload 6, 2), (151, .getfield 128, 3), (154, .aload 6, 2), (156, .getfield 117, 3), (159, .aaload, 1)]
set_option maxRecDepth 100000 in
theorem gv_35_4 : g_okc cX5_move gi_35_4 = true := by decide +kernel
def gi_35_5 : List (Nat × Instr × Nat) := [(160, .astore 8, 2), (162, .aload 8, 2), (164, .aload 7, 2), (166, .getfield 59, 3), (169, .putfield 132, 3), (172, .aload 8, 2), (174, .iload_n 3, 1), (175, .putfield 137, 3), (178, .aload 8, 2), (180, .iload 4, 2), (182, .putfield 140, 3), (185, .aload 8, 2), (187, .iload 5, 2), (189, .putfield 143, 3)]
set_option maxRecDepth 100000 in
theorem gv_35_5 : g_okc cX5_move gi_35_5 = true := by decide +kernel
def gi_35_6 : List (Nat × Instr × Nat) := [(192, .aload 6, 2), (194, .dup, 1), (195, .getfield 117, 3), (198, .dup_x1, 1), (199, .iconst 1, 1), (200, .iadd, 1), (201, .putfield 117, 3), (204, .ireturn, 1)]
set_option maxRecDepth 100000 in
theorem gv_35_6 : g_okc cX5_move gi_35_6 = true := by decide +kernel
def gi_35 : List (List (Nat × Instr × Nat)) := [gi_35_0, gi_35_1, gi_35_2, gi_35_3, gi_35_4, gi_35_5, gi_35_6]
theorem gv_35 : ∀ ch ∈ gi_35, g_okc cX5_move ch = true := List.forall_mem_cons.mpr ⟨gv_35_0, List.forall_mem_cons.mpr ⟨gv_35_1, List.forall_mem_cons.mpr ⟨gv_35_2, List.forall_mem_cons.mpr ⟨gv_35_3, List.forall_mem_cons.mpr ⟨gv_35_4, List.forall_mem_cons.mpr ⟨gv_35_5, List.forall_mem_cons.mpr ⟨gv_35_6, fun _ h => absurd h List.not_mem_nil⟩⟩⟩⟩⟩⟩⟩
def gi_36_0 : List (Nat × Instr × Nat) := [(0, .aload 6, 2), (2, .iconst 0, 1), (3, .aload_n 0, 1), (4, .iload_n 1, 1), (5, .iload_n 2, 1), (6, .iload_n 3, 1), (7, .iload 4, 2), (9, .iload 5, 2), (11, .invokevirtual 25, 3), (14, .i2l, 1), (15, .lastore, 1), (16, .goto 15, 3), (19, .astore 7, 2), (21, .iconst 1, 1), (22, .ireturn, 1), (23, .astore 7, 2), (25, .iconst 2, 1), (26, .ireturn, 1), (27, .astore 7, 2), (29, .iconst 3, 1), (30, .ireturn, 1), (31, .iconst 0, 1)]
set_option maxRecDepth 100000 in
theorem gv_36_0 : g_okc cL_move gi_36_0 = true := by decide +kernel
def gi_36_1 : List (Nat × Instr × Nat) := [(32, .ireturn, 1)]
set_option maxRecDepth 100000 in
theorem gv_36_1 : g_okc cL_move gi_36_1 = true := by decide +kernel
def gi_36 : List (List (Nat × Instr × Nat)) := [gi_36_0, gi_36_1]
theorem gv_36 : ∀ ch ∈ gi_36, g_okc cL_move ch = true := List.forall_mem_cons.mpr ⟨gv_36_0, List.forall_mem_cons.mpr ⟨gv_36_1, fun _ h => absurd h List.not_mem_nil⟩⟩
def gi_37_0 : List (Nat × Instr × Nat) := [(0, .iload_n 1, 1), (1, .iconst 0, 1), (2, .aload_n 0, 1), (3, .getfield 19, 3), (6, .getfield 38, 3), (9, .invokevirtual 30, 3), (12, .iconst 1, 1), (13, .isub, 1), (14, .invokestatic 34, 3), (17, .ireturn, 1)]
set_option maxRecDepth 100000 in
theorem gv_37_0 : g_okc cX7_isCue gi_37_0 = true := by decide +kernel
def gi_37 : List (List (Nat × Instr × Nat)) := [gi_37_0]
theorem gv_37 : ∀ ch ∈ gi_37, g_okc cX7_isCue ch = true := List.forall_mem_cons.mpr ⟨gv_37_0, fun _ h => absurd h List.not_mem_nil⟩
def gi_38_0 : List (Nat × Instr × Nat) := [(0, .iload_n 1, 1), (1, .iconst 0, 1), (2, .aload_n 0, 1), (3, .getfield 19, 3), (6, .getfield 27, 3), (9, .invokevirtual 30, 3), (12, .iconst 1, 1), (13, .isub, 1), (14, .invokestatic 34, 3), (17, .ireturn, 1)]
set_option maxRecDepth 100000 in
theorem gv_38_0 : g_okc cX7_isBar gi_38_0 = true := by decide +kernel
def gi_38 : List (List (Nat × Instr × Nat)) := [gi_38_0]
theorem gv_38 : ∀ ch ∈ gi_38, g_okc cX7_isBar ch = true := List.forall_mem_cons.mpr ⟨gv_38_0, fun _ h => absurd h List.not_mem_nil⟩
def gi_39_0 : List (Nat × Instr × Nat) := [(0, .iload_n 0, 1), (1, .ifCond .lt 8, 3), (4, .iload_n 0, 1), (5, .iload_n 1, 1), (6, .if_icmp .lt 10, 3), (9, .aload_n 2, 1), (10, .iload_n 0, 1), (11, .iload_n 1, 1), (12, .invokestatic 95, 3), (15, .athrow, 1), (16, .iload_n 0, 1), (17, .ireturn, 1)]
set_option maxRecDepth 100000 in
theorem gv_39_0 : g_okc cJ3_checkIndex_8e157 gi_39_0 = true := by decide +kernel
def gi_39 : List (List (Nat × Instr × Nat)) := [gi_39_0]
theorem gv_39 : ∀ ch ∈ gi_39, g_okc cJ3_checkIndex_8e157 ch = true := List.forall_mem_cons.mpr ⟨gv_39_0, fun _ h => absurd h List.not_mem_nil⟩
def gi_40_0 : List (Nat × Instr × Nat) := [(0, .iload_n 0, 1), (1, .iload_n 1, 1), (2, .aconst_null, 1), (3, .invokestatic 105, 3), (6, .ireturn, 1)]
set_option maxRecDepth 100000 in
theorem gv_40_0 : g_okc cJ15_checkIndex_7cf53 gi_40_0 = true := by decide +kernel
def gi_40 : List (List (Nat × Instr × Nat)) := [gi_40_0]
theorem gv_40 : ∀ ch ∈ gi_40, g_okc cJ15_checkIndex_7cf53 ch = true := List.forall_mem_cons.mpr ⟨gv_40_0, fun _ h => absurd h List.not_mem_nil⟩
def gi_41_0 : List (Nat × Instr × Nat) := [(0, .aload_n 0, 1), (1, .getfield 9, 3), (4, .iload_n 1, 1), (5, .aaload, 1), (6, .areturn, 1)]
set_option maxRecDepth 100000 in
theorem gv_41_0 : g_okc cJx4a65c_elementData_915e3 gi_41_0 = true := by decide +kernel
def gi_41 : List (List (Nat × Instr × Nat)) := [gi_41_0]
theorem gv_41 : ∀ ch ∈ gi_41, g_okc cJx4a65c_elementData_915e3 ch = true := List.forall_mem_cons.mpr ⟨gv_41_0, fun _ h => absurd h List.not_mem_nil⟩
def gi_42_0 : List (Nat × Instr × Nat) := [(0, .iload_n 1, 1), (1, .aload_n 0, 1), (2, .getfield 48, 3), (5, .invokestatic 118, 3), (8, .pop, 1), (9, .aload_n 0, 1), (10, .iload_n 1, 1), (11, .invokevirtual 123, 3), (14, .areturn, 1)]
set_option maxRecDepth 100000 in
theorem gv_42_0 : g_okc cJx4a65c_get_915e3 gi_42_0 = true := by decide +kernel
def gi_42 : List (List (Nat × Instr × Nat)) := [gi_42_0]
theorem gv_42 : ∀ ch ∈ gi_42, g_okc cJx4a65c_get_915e3 ch = true := List.forall_mem_cons.mpr ⟨gv_42_0, fun _ h => absurd h List.not_mem_nil⟩
def gi_43_0 : List (Nat × Instr × Nat) := [(0, .aload_n 0, 1), (1, .aload_n 1, 1), (2, .putfield 1, 3), (5, .aload_n 0, 1), (6, .invokespecial 7, 3), (9, .aload_n 0, 1), (10, .iconst (-1), 1), (11, .putfield 13, 3), (14, .aload_n 0, 1), (15, .aload_n 0, 1), (16, .getfield 1, 3), (19, .getfield 17, 3), (22, .putfield 22, 3), (25, .return_, 1)]
set_option maxRecDepth 100000 in
theorem gv_43_0 : g_okc cJx35411_init_45d68 gi_43_0 = true := by decide +kernel
def gi_43 : List (List (Nat × Instr × Nat)) := [gi_43_0]
theorem gv_43 : ∀ ch ∈ gi_43, g_okc cJx35411_init_45d68 ch = true := List.forall_mem_cons.mpr ⟨gv_43_0, fun _ h => absurd h List.not_mem_nil⟩
def gi_44_0 : List (Nat × Instr × Nat) := [(0, .new 267, 3), (3, .dup, 1), (4, .aload_n 0, 1), (5, .invokespecial 269, 3), (8, .areturn, 1)]
set_option maxRecDepth 100000 in
theorem gv_44_0 : g_okc cJx4a65c_iterator_32c93 gi_44_0 = true := by decide +kernel
def gi_44 : List (List (Nat × Instr × Nat)) := [gi_44_0]
theorem gv_44 : ∀ ch ∈ gi_44, g_okc cJx4a65c_iterator_32c93 ch = true := List.forall_mem_cons.mpr ⟨gv_44_0, fun _ h => absurd h List.not_mem_nil⟩
def gi_45_0 : List (Nat × Instr × Nat) := [(0, .aload_n 0, 1), (1, .getfield 25, 3), (4, .aload_n 0, 1), (5, .getfield 1, 3), (8, .getfield 28, 3), (11, .if_icmp .eq 7, 3), (14, .iconst 1, 1), (15, .goto 4, 3), (18, .iconst 0, 1), (19, .ireturn, 1)]
set_option maxRecDepth 100000 in
theorem gv_45_0 : g_okc cJx35411_hasNext_aae02 gi_45_0 = true := by decide +kernel
def gi_45 : List (List (Nat × Instr × Nat)) := [gi_45_0]
theorem gv_45 : ∀ ch ∈ gi_45, g_okc cJx35411_hasNext_aae02 ch = true := List.forall_mem_cons.mpr ⟨gv_45_0, fun _ h => absurd h List.not_mem_nil⟩
def gi_46_0 : List (Nat × Instr × Nat) := [(0, .aload_n 0, 1), (1, .iconst 0, 1), (2, .putfield 23, 3), (5, .aload_n 0, 1), (6, .iload_n 1, 1), (7, .invokevirtual 53, 3), (10, .ifCond .eq 11, 3), (13, .aload_n 0, 1), (14, .iload_n 2, 1), (15, .invokevirtual 57, 3), (18, .ifCond .ne 9, 3), (21, .aload_n 0, 1), (22, .iconst 1, 1), (23, .invokevirtual 41, 3), (26, .ireturn, 1), (27, .iload_n 3, 1), (28, .iconst 0, 1), (29, .bipush 120, 2), (31, .invokestatic 34, 3)]
set_option maxRecDepth 100000 in
theorem gv_46_0 : g_okc cX7_move gi_46_0 = true := by decide +kernel
def gi_46_1 : List (Nat × Instr × Nat) := [(34, .ifCond .eq 25, 3), (37, .iload 4, 2), (39, .iconst 1, 1), (40, .bipush 6, 2), (42, .invokestatic 34, 3), (45, .ifCond .eq 14, 3), (48, .iload 5, 2), (50, .iconst 0, 1), (51, .bipush 20, 2), (53, .invokestatic 34, 3), (56, .ifCond .ne 9, 3), (59, .aload_n 0, 1), (60, .iconst 2, 1), (61, .invokevirtual 41, 3)]
set_option maxRecDepth 100000 in
theorem gv_46_1 : g_okc cX7_move gi_46_1 = true := by decide +kernel
def gi_46_2 : List (Nat × Instr × Nat) := [(64, .ireturn, 1), (65, .aload_n 0, 1), (66, .getfield 19, 3), (69, .getfield 38, 3), (72, .iload_n 1, 1), (73, .invokevirtual 60, 3), (76, .checkcast 7, 3), (79, .astore 6, 2), (81, .aload_n 0, 1), (82, .getfield 19, 3), (85, .getfield 64, 3), (88, .iload_n 1, 1), (89, .if_icmp .eq 17, 3), (92, .aload 6, 2), (94, .invokevirtual 30, 3)]
set_option maxRecDepth 100000 in
theorem gv_46_2 : g_okc cX7_move gi_46_2 = true := by decide +kernel
def gi_46_3 : List (Nat × Instr × Nat) := [(97, .bipush 6, 2), (99, .if_icmp .ge 7, 3), (102, .iconst 1, 1), (103, .goto 4, 3), (106, .iconst 0, 1), (107, .istore 7, 2), (109, .aload 6, 2), (111, .invokevirtual 67, 3), (114, .astore 8, 2), (116, .aload 8, 2), (118, .invokeinterface 71 1, 5), (123, .ifCond .eq 36, 3), (126, .aload 8, 2)]
set_option maxRecDepth 100000 in
theorem gv_46_3 : g_okc cX7_move gi_46_3 = true := by decide +kernel
def gi_46_4 : List (Nat × Instr × Nat) := [(128, .invokeinterface 77 1, 5), (133, .checkcast 81, 3), (136, .astore 9, 2), (138, .iload 7, 2), (140, .aload 9, 2), (142, .iconst 0, 1), (143, .iaload, 1), (144, .iload_n 2, 1), (145, .if_icmp .eq 7, 3), (148, .iconst 1, 1), (149, .goto 4, 3), (152, .iconst 0, 1), (153, .iand, 1), (154, .istore 7, 2), (156, .goto (-40), 3), (159, .iload 7, 2)]
set_option maxRecDepth 100000 in
theorem gv_46_4 : g_okc cX7_move gi_46_4 = true := by decide +kernel
def gi_46_5 : List (Nat × Instr × Nat) := [(161, .ifCond .ne 9, 3), (164, .aload_n 0, 1), (165, .iconst 3, 1), (166, .invokevirtual 41, 3), (169, .ireturn, 1), (170, .bipush 6, 2), (172, .newarray .int, 2), (174, .dup, 1), (175, .iconst 0, 1), (176, .iload_n 2, 1), (177, .iastore, 1), (178, .dup, 1), (179, .iconst 1, 1), (180, .iload_n 3, 1), (181, .iastore, 1), (182, .dup, 1), (183, .iconst 2, 1), (184, .iload 4, 2), (186, .iastore, 1), (187, .dup, 1), (188, .iconst 3, 1), (189, .iload 5, 2), (191, .iastore, 1)]
set_option maxRecDepth 100000 in
theorem gv_46_5 : g_okc cX7_move gi_46_5 = true := by decide +kernel
def gi_46_6 : List (Nat × Instr × Nat) := [(192, .dup, 1), (193, .iconst 4, 1), (194, .iconst (-1), 1), (195, .iastore, 1), (196, .dup, 1), (197, .iconst 5, 1), (198, .iconst 0, 1), (199, .iastore, 1), (200, .astore 8, 2), (202, .aload 6, 2), (204, .aload 8, 2), (206, .invokevirtual 45, 3), (209, .pop, 1), (210, .aload 6, 2), (212, .invokevirtual 30, 3), (215, .iconst 1, 1), (216, .isub, 1), (217, .ireturn, 1)]
set_option maxRecDepth 100000 in
theorem gv_46_6 : g_okc cX7_move gi_46_6 = true := by decide +kernel
def gi_46 : List (List (Nat × Instr × Nat)) := [gi_46_0, gi_46_1, gi_46_2, gi_46_3, gi_46_4, gi_46_5, gi_46_6]
theorem gv_46 : ∀ ch ∈ gi_46, g_okc cX7_move ch = true := List.forall_mem_cons.mpr ⟨gv_46_0, List.forall_mem_cons.mpr ⟨gv_46_1, List.forall_mem_cons.mpr ⟨gv_46_2, List.forall_mem_cons.mpr ⟨gv_46_3, List.forall_mem_cons.mpr ⟨gv_46_4, List.forall_mem_cons.mpr ⟨gv_46_5, List.forall_mem_cons.mpr ⟨gv_46_6, fun _ h => absurd h List.not_mem_nil⟩⟩⟩⟩⟩⟩⟩
def gi_47_0 : List (Nat × Instr × Nat) := [(0, .iload_n 1, 1), (1, .ifCond .lt 8, 3), (4, .iload_n 1, 1), (5, .iconst 5, 1), (6, .if_icmp .le 13, 3), (9, .new 30, 3), (12, .dup, 1), (13, .ldc 146, 2), (15, .invokespecial 34, 3), (18, .athrow, 1), (19, .aload_n 0, 1), (20, .getfield 10, 3), (23, .getfield 148, 3), (26, .istore_n 2, 1), (27, .aload_n 0, 1), (28, .getfield 10, 3), (31, .iload_n 1, 1)]
set_option maxRecDepth 100000 in
theorem gv_47_0 : g_okc cX5_crew gi_47_0 = true := by decide +kernel
def gi_47_1 : List (Nat × Instr × Nat) := [(32, .putfield 148, 3), (35, .iload_n 2, 1), (36, .ireturn, 1)]
set_option maxRecDepth 100000 in
theorem gv_47_1 : g_okc cX5_crew gi_47_1 = true := by decide +kernel
def gi_47 : List (List (Nat × Instr × Nat)) := [gi_47_0, gi_47_1]
theorem gv_47 : ∀ ch ∈ gi_47, g_okc cX5_crew ch = true := List.forall_mem_cons.mpr ⟨gv_47_0, List.forall_mem_cons.mpr ⟨gv_47_1, fun _ h => absurd h List.not_mem_nil⟩⟩
def gi_48_0 : List (Nat × Instr × Nat) := [(0, .aload_n 2, 1), (1, .iconst 0, 1), (2, .aload_n 0, 1), (3, .iload_n 1, 1), (4, .invokevirtual 31, 3), (7, .i2l, 1), (8, .lastore, 1), (9, .goto 6, 3), (12, .astore_n 3, 1), (13, .iconst 1, 1), (14, .ireturn, 1), (15, .iconst 0, 1), (16, .ireturn, 1)]
set_option maxRecDepth 100000 in
theorem gv_48_0 : g_okc cL_crew gi_48_0 = true := by decide +kernel
def gi_48 : List (List (Nat × Instr × Nat)) := [gi_48_0]
theorem gv_48 : ∀ ch ∈ gi_48, g_okc cL_crew ch = true := List.forall_mem_cons.mpr ⟨gv_48_0, fun _ h => absurd h List.not_mem_nil⟩
def gi_49_0 : List (Nat × Instr × Nat) := [(0, .aload_n 0, 1), (1, .iconst 0, 1), (2, .putfield 23, 3), (5, .iload_n 1, 1), (6, .iconst 0, 1), (7, .iconst 5, 1), (8, .invokestatic 34, 3), (11, .ifCond .ne 9, 3), (14, .aload_n 0, 1), (15, .iconst 1, 1), (16, .invokevirtual 41, 3), (19, .ireturn, 1), (20, .aload_n 0, 1), (21, .getfield 19, 3), (24, .getfield 82, 3), (27, .istore_n 2, 1), (28, .aload_n 0, 1), (29, .getfield 19, 3)]
set_option maxRecDepth 100000 in
theorem gv_49_0 : g_okc cX7_crew gi_49_0 = true := by decide +kernel
def gi_49_1 : List (Nat × Instr × Nat) := [(32, .iload_n 1, 1), (33, .putfield 82, 3), (36, .iload_n 2, 1), (37, .ireturn, 1)]
set_option maxRecDepth 100000 in
theorem gv_49_1 : g_okc cX7_crew gi_49_1 = true := by decide +kernel
def gi_49 : List (List (Nat × Instr × Nat)) := [gi_49_0, gi_49_1]
theorem gv_49 : ∀ ch ∈ gi_49, g_okc cX7_crew ch = true := List.forall_mem_cons.mpr ⟨gv_49_0, List.forall_mem_cons.mpr ⟨gv_49_1, fun _ h => absurd h List.not_mem_nil⟩⟩
def gi_50_0 : List (Nat × Instr × Nat) := [(0, .aload_n 0, 1), (1, .getfield 10, 3), (4, .iload_n 1, 1), (5, .invokevirtual 102, 3), (8, .astore 4, 2), (10, .aload 4, 2), (12, .getfield 151, 3), (15, .istore 5, 2), (17, .aload 4, 2), (19, .iload_n 2, 1), (20, .putfield 151, 3), (23, .aload 4, 2), (25, .iload_n 3, 1), (26, .putfield 154, 3), (29, .iload 5, 2), (31, .ireturn, 1)]
set_option maxRecDepth 100000 in
theorem gv_50_0 : g_okc cX5_below gi_50_0 = true := by decide +kernel
def gi_50 : List (List (Nat × Instr × Nat)) := [gi_50_0]
theorem gv_50 : ∀ ch ∈ gi_50, g_okc cX5_below ch = true := List.forall_mem_cons.mpr ⟨gv_50_0, fun _ h => absurd h List.not_mem_nil⟩
def gi_51_0 : List (Nat × Instr × Nat) := [(0, .aload 4, 2), (2, .iconst 0, 1), (3, .aload_n 0, 1), (4, .iload_n 1, 1), (5, .iload_n 2, 1), (6, .iload_n 3, 1), (7, .invokevirtual 34, 3), (10, .ifCond .eq 7, 3), (13, .lconst 1, 1), (14, .goto 4, 3), (17, .lconst 0, 1), (18, .lastore, 1), (19, .goto 7, 3), (22, .astore 5, 2), (24, .iconst 1, 1), (25, .ireturn, 1), (26, .iconst 0, 1), (27, .ireturn, 1)]
set_option maxRecDepth 100000 in
theorem gv_51_0 : g_okc cL_below gi_51_0 = true := by decide +kernel
def gi_51 : List (List (Nat × Instr × Nat)) := [gi_51_0]
theorem gv_51 : ∀ ch ∈ gi_51, g_okc cL_below ch = true := List.forall_mem_cons.mpr ⟨gv_51_0, fun _ h => absurd h List.not_mem_nil⟩
def gi_52_0 : List (Nat × Instr × Nat) := [(0, .aload_n 0, 1), (1, .aload_n 0, 1), (2, .iload_n 1, 1), (3, .invokevirtual 57, 3), (6, .ifCond .eq 7, 3), (9, .iconst 0, 1), (10, .goto 4, 3), (13, .iconst 1, 1), (14, .putfield 23, 3), (17, .aload_n 0, 1), (18, .getfield 23, 3), (21, .ifCond .le 5, 3), (24, .iconst 0, 1), (25, .ireturn, 1), (26, .aload_n 0, 1), (27, .getfield 19, 3), (30, .getfield 27, 3)]
set_option maxRecDepth 100000 in
theorem gv_52_0 : g_okc cX7_below gi_52_0 = true := by decide +kernel
def gi_52_1 : List (Nat × Instr × Nat) := [(33, .iload_n 1, 1), (34, .invokevirtual 60, 3), (37, .checkcast 81, 3), (40, .astore 4, 2), (42, .aload 4, 2), (44, .iconst 4, 1), (45, .iaload, 1), (46, .iconst 1, 1), (47, .if_icmp .ne 7, 3), (50, .iconst 1, 1), (51, .goto 4, 3), (54, .iconst 0, 1), (55, .istore 5, 2), (57, .aload 4, 2), (59, .iconst 4, 1), (60, .iload_n 2, 1), (61, .ifCond .eq 7, 3)]
set_option maxRecDepth 100000 in
theorem gv_52_1 : g_okc cX7_below gi_52_1 = true := by decide +kernel
def gi_52_2 : List (Nat × Instr × Nat) := [(64, .iconst 1, 1), (65, .goto 4, 3), (68, .iconst 0, 1), (69, .iastore, 1), (70, .aload 4, 2), (72, .iconst 5, 1), (73, .iload_n 3, 1), (74, .ifCond .eq 7, 3), (77, .iconst 1, 1), (78, .goto 4, 3), (81, .iconst 0, 1), (82, .iastore, 1), (83, .iload 5, 2), (85, .ireturn, 1)]
set_option maxRecDepth 100000 in
theorem gv_52_2 : g_okc cX7_below gi_52_2 = true := by decide +kernel
def gi_52 : List (List (Nat × Instr × Nat)) := [gi_52_0, gi_52_1, gi_52_2]
theorem gv_52 : ∀ ch ∈ gi_52, g_okc cX7_below ch = true := List.forall_mem_cons.mpr ⟨gv_52_0, List.forall_mem_cons.mpr ⟨gv_52_1, List.forall_mem_cons.mpr ⟨gv_52_2, fun _ h => absurd h List.not_mem_nil⟩⟩⟩
def gi_53_0 : List (Nat × Instr × Nat) := [(0, .iload_n 1, 1), (1, .ifCond .lt 11, 3), (4, .iload_n 1, 1), (5, .aload_n 0, 1), (6, .getfield 68, 3), (9, .if_icmp .lt 14, 3), (12, .new 329, 3), (15, .dup, 1), (16, .ldc_w 331, 3), (19, .invokespecial 333, 3), (22, .athrow, 1), (23, .aload_n 0, 1), (24, .getfield 21, 3), (27, .iload_n 1, 1), (28, .aaload, 1), (29, .areturn, 1)]
set_option maxRecDepth 100000 in
theorem gv_53_0 : g_okc cX5_pieceAt gi_53_0 = true := by decide +kernel
def gi_53 : List (List (Nat × Instr × Nat)) := [gi_53_0]
theorem gv_53 : ∀ ch ∈ gi_53, g_okc cX5_pieceAt ch = true := List.forall_mem_cons.mpr ⟨gv_53_0, fun _ h => absurd h List.not_mem_nil⟩
def gi_54_0 : List (Nat × Instr × Nat) := [(0, .aload_n 0, 1), (1, .getfield 10, 3), (4, .getfield 112, 3), (7, .iconst (-1), 1), (8, .if_icmp .eq 13, 3), (11, .new 41, 3), (14, .dup, 1), (15, .ldc 189, 2), (17, .invokespecial 45, 3), (20, .athrow, 1), (21, .aload_n 1, 1), (22, .getfield 223, 3), (25, .ifCond .le 14, 3), (28, .new 41, 3), (31, .dup, 1)]
set_option maxRecDepth 100000 in
theorem gv_54_0 : g_okc cX5_refuseUnlessAtRest gi_54_0 = true := by decide +kernel
def gi_54_1 : List (Nat × Instr × Nat) := [(32, .ldc_w 336, 3), (35, .invokespecial 45, 3), (38, .athrow, 1), (39, .return_, 1)]
set_option maxRecDepth 100000 in
theorem gv_54_1 : g_okc cX5_refuseUnlessAtRest gi_54_1 = true := by decide +kernel
def gi_54 : List (List (Nat × Instr × Nat)) := [gi_54_0, gi_54_1]
theorem gv_54 : ∀ ch ∈ gi_54, g_okc cX5_refuseUnlessAtRest ch = true := List.forall_mem_cons.mpr ⟨gv_54_0, List.forall_mem_cons.mpr ⟨gv_54_1, fun _ h => absurd h List.not_mem_nil⟩⟩
def gi_55_0 : List (Nat × Instr × Nat) := [(0, .aload_n 1, 1), (1, .iconst 0, 1), (2, .putfield 168, 3), (5, .aload_n 1, 1), (6, .iconst 0, 1), (7, .putfield 226, 3), (10, .aload_n 1, 1), (11, .iconst 0, 1), (12, .putfield 229, 3), (15, .iconst 0, 1), (16, .istore_n 2, 1), (17, .iload_n 2, 1), (18, .aload_n 0, 1), (19, .getfield 68, 3), (22, .if_icmp .ge 70, 3), (25, .aload_n 0, 1), (26, .getfield 21, 3), (29, .iload_n 2, 1), (30, .aaload, 1), (31, .astore_n 3, 1)]
set_option maxRecDepth 100000 in
theorem gv_55_0 : g_okc cX5_weigh gi_55_0 = true := by decide +kernel
def gi_55_1 : List (Nat × Instr × Nat) := [(32, .aload_n 3, 1), (33, .getfield 161, 3), (36, .aload_n 1, 1), (37, .getfield 59, 3), (40, .if_icmp .ne 46, 3), (43, .aload_n 1, 1), (44, .dup, 1), (45, .getfield 168, 3), (48, .aload_n 3, 1), (49, .getfield 73, 3), (52, .iadd, 1), (53, .putfield 168, 3), (56, .aload_n 1, 1), (57, .aload_n 1, 1), (58, .getfield 226, 3), (61, .aload_n 3, 1), (62, .getfield 76, 3)]
set_option maxRecDepth 100000 in
theorem gv_55_1 : g_okc cX5_weigh gi_55_1 = true := by decide +kernel
def gi_55_2 : List (Nat × Instr × Nat) := [(65, .invokestatic 338, 3), (68, .putfield 226, 3), (71, .aload_n 1, 1), (72, .aload_n 1, 1), (73, .getfield 229, 3), (76, .aload_n 3, 1), (77, .getfield 79, 3), (80, .invokestatic 338, 3), (83, .putfield 229, 3), (86, .iinc 2 1, 3), (89, .goto (-72), 3), (92, .return_, 1)]
set_option maxRecDepth 100000 in
theorem gv_55_2 : g_okc cX5_weigh gi_55_2 = true := by decide +kernel
def gi_55 : List (List (Nat × Instr × Nat)) := [gi_55_0, gi_55_1, gi_55_2]
theorem gv_55 : ∀ ch ∈ gi_55, g_okc cX5_weigh ch = true := List.forall_mem_cons.mpr ⟨gv_55_0, List.forall_mem_cons.mpr ⟨gv_55_1, List.forall_mem_cons.mpr ⟨gv_55_2, fun _ h => absurd h List.not_mem_nil⟩⟩⟩
def gi_56_0 : List (Nat × Instr × Nat) := [(0, .aload_n 0, 1), (1, .iload_n 1, 1), (2, .invokevirtual 157, 3), (5, .astore_n 3, 1), (6, .aload_n 0, 1), (7, .getfield 10, 3), (10, .iload_n 2, 1), (11, .invokevirtual 102, 3), (14, .astore 4, 2), (16, .aload_n 3, 1), (17, .getfield 161, 3), (20, .iconst (-1), 1), (21, .if_icmp .eq 13, 3), (24, .new 41, 3), (27, .dup, 1), (28, .ldc 162, 2), (30, .invokespecial 45, 3)]
set_option maxRecDepth 100000 in
theorem gv_56_0 : g_okc cX5_hang gi_56_0 = true := by decide +kernel
def gi_56_1 : List (Nat × Instr × Nat) := [(33, .athrow, 1), (34, .aload_n 0, 1), (35, .aload 4, 2), (37, .invokevirtual 164, 3), (40, .aload 4, 2), (42, .getfield 168, 3), (45, .aload_n 3, 1), (46, .getfield 73, 3), (49, .iadd, 1), (50, .aload 4, 2), (52, .getfield 56, 3), (55, .if_icmp .le 13, 3), (58, .new 41, 3), (61, .dup, 1), (62, .ldc 171, 2)]
set_option maxRecDepth 100000 in
theorem gv_56_1 : g_okc cX5_hang gi_56_1 = true := by decide +kernel
def gi_56_2 : List (Nat × Instr × Nat) := [(64, .invokespecial 45, 3), (67, .athrow, 1), (68, .aload_n 3, 1), (69, .aload 4, 2), (71, .getfield 59, 3), (74, .putfield 161, 3), (77, .aload_n 0, 1), (78, .aload 4, 2), (80, .invokevirtual 173, 3), (83, .aload 4, 2), (85, .getfield 168, 3), (88, .ireturn, 1)]
set_option maxRecDepth 100000 in
theorem gv_56_2 : g_okc cX5_hang gi_56_2 = true := by decide +kernel
def gi_56 : List (List (Nat × Instr × Nat)) := [gi_56_0, gi_56_1, gi_56_2]
theorem gv_56 : ∀ ch ∈ gi_56, g_okc cX5_hang ch = true := List.forall_mem_cons.mpr ⟨gv_56_0, List.forall_mem_cons.mpr ⟨gv_56_1, List.forall_mem_cons.mpr ⟨gv_56_2, fun _ h => absurd h List.not_mem_nil⟩⟩⟩
def gi_57_0 : List (Nat × Instr × Nat) := [(0, .aload_n 3, 1), (1, .iconst 0, 1), (2, .aload_n 0, 1), (3, .iload_n 1, 1), (4, .iload_n 2, 1), (5, .invokevirtual 38, 3), (8, .i2l, 1), (9, .lastore, 1), (10, .goto 11, 3), (13, .astore 4, 2), (15, .iconst 1, 1), (16, .ireturn, 1), (17, .astore 4, 2), (19, .iconst 2, 1), (20, .ireturn, 1), (21, .iconst 0, 1), (22, .ireturn, 1)]
set_option maxRecDepth 100000 in
theorem gv_57_0 : g_okc cL_hang gi_57_0 = true := by decide +kernel
def gi_57 : List (List (Nat × Instr × Nat)) := [gi_57_0]
theorem gv_57 : ∀ ch ∈ gi_57, g_okc cL_hang ch = true := List.forall_mem_cons.mpr ⟨gv_57_0, fun _ h => absurd h List.not_mem_nil⟩
def gi_58_0 : List (Nat × Instr × Nat) := [(0, .iload_n 1, 1), (1, .iconst 0, 1), (2, .aload_n 0, 1), (3, .getfield 10, 3), (6, .invokevirtual 30, 3), (9, .iconst 1, 1), (10, .isub, 1), (11, .invokestatic 34, 3), (14, .ireturn, 1)]
set_option maxRecDepth 100000 in
theorem gv_58_0 : g_okc cX7_isPiece gi_58_0 = true := by decide +kernel
def gi_58 : List (List (Nat × Instr × Nat)) := [gi_58_0]
theorem gv_58 : ∀ ch ∈ gi_58, g_okc cX7_isPiece ch = true := List.forall_mem_cons.mpr ⟨gv_58_0, fun _ h => absurd h List.not_mem_nil⟩
def gi_59_0 : List (Nat × Instr × Nat) := [(0, .aload_n 0, 1), (1, .getfield 19, 3), (4, .getfield 64, 3), (7, .iconst (-1), 1), (8, .if_icmp .ne 26, 3), (11, .aload_n 0, 1), (12, .getfield 19, 3), (15, .getfield 27, 3), (18, .iload_n 1, 1), (19, .invokevirtual 60, 3), (22, .checkcast 81, 3), (25, .iconst 2, 1), (26, .iaload, 1), (27, .ifCond .ne 7, 3), (30, .iconst 1, 1), (31, .goto 4, 3)]
set_option maxRecDepth 100000 in
theorem gv_59_0 : g_okc cX7_isLow gi_59_0 = true := by decide +kernel
def gi_59_1 : List (Nat × Instr × Nat) := [(34, .iconst 0, 1), (35, .ireturn, 1)]
set_option maxRecDepth 100000 in
theorem gv_59_1 : g_okc cX7_isLow gi_59_1 = true := by decide +kernel
def gi_59 : List (List (Nat × Instr × Nat)) := [gi_59_0, gi_59_1]
theorem gv_59 : ∀ ch ∈ gi_59, g_okc cX7_isLow ch = true := List.forall_mem_cons.mpr ⟨gv_59_0, List.forall_mem_cons.mpr ⟨gv_59_1, fun _ h => absurd h List.not_mem_nil⟩⟩
def gi_60_0 : List (Nat × Instr × Nat) := [(0, .aload_n 0, 1), (1, .getfield 19, 3), (4, .getfield 27, 3), (7, .iload_n 1, 1), (8, .invokevirtual 60, 3), (11, .checkcast 81, 3), (14, .astore_n 2, 1), (15, .aload_n 2, 1), (16, .bipush 8, 2), (18, .iconst 0, 1), (19, .iastore, 1), (20, .aload_n 2, 1), (21, .bipush 9, 2), (23, .iconst 0, 1), (24, .iastore, 1), (25, .aload_n 2, 1), (26, .bipush 10, 2), (28, .iconst 0, 1), (29, .iastore, 1), (30, .aload_n 0, 1), (31, .getfield 10, 3)]
set_option maxRecDepth 100000 in
theorem gv_60_0 : g_okc cX7_weigh gi_60_0 = true := by decide +kernel
def gi_60_1 : List (Nat × Instr × Nat) := [(34, .invokevirtual 67, 3), (37, .astore_n 3, 1), (38, .aload_n 3, 1), (39, .invokeinterface 71 1, 5), (44, .ifCond .eq 69, 3), (47, .aload_n 3, 1), (48, .invokeinterface 77 1, 5), (53, .checkcast 81, 3), (56, .astore 4, 2), (58, .aload 4, 2), (60, .iconst 3, 1), (61, .iaload, 1), (62, .iload_n 1, 1), (63, .if_icmp .eq 6, 3)]
set_option maxRecDepth 100000 in
theorem gv_60_1 : g_okc cX7_weigh gi_60_1 = true := by decide +kernel
def gi_60_2 : List (Nat × Instr × Nat) := [(66, .goto (-28), 3), (69, .aload_n 2, 1), (70, .bipush 8, 2), (72, .dup2, 1), (73, .iaload, 1), (74, .aload 4, 2), (76, .iconst 0, 1), (77, .iaload, 1), (78, .iadd, 1), (79, .iastore, 1), (80, .aload_n 2, 1), (81, .bipush 9, 2), (83, .aload_n 2, 1), (84, .bipush 9, 2), (86, .iaload, 1), (87, .aload 4, 2), (89, .iconst 1, 1), (90, .iaload, 1), (91, .invokestatic 85, 3), (94, .iastore, 1), (95, .aload_n 2, 1)]
set_option maxRecDepth 100000 in
theorem gv_60_2 : g_okc cX7_weigh gi_60_2 = true := by decide +kernel
def gi_60_3 : List (Nat × Instr × Nat) := [(96, .bipush 10, 2), (98, .aload_n 2, 1), (99, .bipush 10, 2), (101, .iaload, 1), (102, .aload 4, 2), (104, .iconst 2, 1), (105, .iaload, 1), (106, .invokestatic 85, 3), (109, .iastore, 1), (110, .goto (-72), 3), (113, .return_, 1)]
set_option maxRecDepth 100000 in
theorem gv_60_3 : g_okc cX7_weigh gi_60_3 = true := by decide +kernel
def gi_60 : List (List (Nat × Instr × Nat)) := [gi_60_0, gi_60_1, gi_60_2, gi_60_3]
theorem gv_60 : ∀ ch ∈ gi_60, g_okc cX7_weigh ch = true := List.forall_mem_cons.mpr ⟨gv_60_0, List.forall_mem_cons.mpr ⟨gv_60_1, List.forall_mem_cons.mpr ⟨gv_60_2, List.forall_mem_cons.mpr ⟨gv_60_3, fun _ h => absurd h List.not_mem_nil⟩⟩⟩⟩
def gi_61_0 : List (Nat × Instr × Nat) := [(0, .aload_n 0, 1), (1, .iconst 0, 1), (2, .putfield 23, 3), (5, .aload_n 0, 1), (6, .iload_n 1, 1), (7, .invokevirtual 91, 3), (10, .ifCond .eq 11, 3), (13, .aload_n 0, 1), (14, .iload_n 2, 1), (15, .invokevirtual 57, 3), (18, .ifCond .ne 9, 3), (21, .aload_n 0, 1), (22, .iconst 1, 1), (23, .invokevirtual 41, 3), (26, .ireturn, 1), (27, .aload_n 0, 1), (28, .getfield 10, 3), (31, .iload_n 1, 1)]
set_option maxRecDepth 100000 in
theorem gv_61_0 : g_okc cX7_hang gi_61_0 = true := by decide +kernel
def gi_61_1 : List (Nat × Instr × Nat) := [(32, .invokevirtual 60, 3), (35, .checkcast 81, 3), (38, .astore_n 3, 1), (39, .aload_n 0, 1), (40, .getfield 19, 3), (43, .getfield 27, 3), (46, .iload_n 2, 1), (47, .invokevirtual 60, 3), (50, .checkcast 81, 3), (53, .astore 4, 2), (55, .aload_n 3, 1), (56, .iconst 3, 1), (57, .iaload, 1), (58, .iconst (-1), 1), (59, .if_icmp .ne 27, 3), (62, .aload_n 0, 1), (63, .iload_n 2, 1)]
set_option maxRecDepth 100000 in
theorem gv_61_1 : g_okc cX7_hang gi_61_1 = true := by decide +kernel
def gi_61_2 : List (Nat × Instr × Nat) := [(64, .invokevirtual 94, 3), (67, .ifCond .eq 19, 3), (70, .aload 4, 2), (72, .bipush 8, 2), (74, .iaload, 1), (75, .aload_n 3, 1), (76, .iconst 0, 1), (77, .iaload, 1), (78, .iadd, 1), (79, .aload 4, 2), (81, .iconst 1, 1), (82, .iaload, 1), (83, .if_icmp .le 9, 3), (86, .aload_n 0, 1), (87, .iconst 2, 1), (88, .invokevirtual 41, 3), (91, .ireturn, 1), (92, .aload_n 3, 1), (93, .iconst 3, 1), (94, .iload_n 2, 1), (95, .iastore, 1)]
set_option maxRecDepth 100000 in
theorem gv_61_2 : g_okc cX7_hang gi_61_2 = true := by decide +kernel
def gi_61_3 : List (Nat × Instr × Nat) := [(96, .aload_n 0, 1), (97, .iload_n 2, 1), (98, .invokevirtual 97, 3), (101, .aload 4, 2), (103, .bipush 8, 2), (105, .iaload, 1), (106, .ireturn, 1)]
set_option maxRecDepth 100000 in
theorem gv_61_3 : g_okc cX7_hang gi_61_3 = true := by decide +kernel
def gi_61 : List (List (Nat × Instr × Nat)) := [gi_61_0, gi_61_1, gi_61_2, gi_61_3]
theorem gv_61 : ∀ ch ∈ gi_61, g_okc cX7_hang ch = true := List.forall_mem_cons.mpr ⟨gv_61_0, List.forall_mem_cons.mpr ⟨gv_61_1, List.forall_mem_cons.mpr ⟨gv_61_2, List.forall_mem_cons.mpr ⟨gv_61_3, fun _ h => absurd h List.not_mem_nil⟩⟩⟩⟩
end
section
def gi_62_0 : List (Nat × Instr × Nat) := [(0, .aload_n 0, 1), (1, .iload_n 1, 1), (2, .invokevirtual 157, 3), (5, .astore_n 2, 1), (6, .aload_n 2, 1), (7, .getfield 161, 3), (10, .iconst (-1), 1), (11, .if_icmp .ne 13, 3), (14, .new 41, 3), (17, .dup, 1), (18, .ldc 176, 2), (20, .invokespecial 45, 3), (23, .athrow, 1), (24, .aload_n 0, 1), (25, .getfield 10, 3), (28, .aload_n 2, 1), (29, .getfield 161, 3)]
set_option maxRecDepth 100000 in
theorem gv_62_0 : g_okc cX5_take gi_62_0 = true := by decide +kernel
def gi_62_1 : List (Nat × Instr × Nat) := [(32, .invokevirtual 102, 3), (35, .astore_n 3, 1), (36, .aload_n 0, 1), (37, .aload_n 3, 1), (38, .invokevirtual 164, 3), (41, .aload_n 2, 1), (42, .iconst (-1), 1), (43, .putfield 161, 3), (46, .aload_n 0, 1), (47, .aload_n 3, 1), (48, .invokevirtual 173, 3), (51, .aload_n 3, 1), (52, .getfield 59, 3), (55, .ireturn, 1)]
set_option maxRecDepth 100000 in
theorem gv_62_1 : g_okc cX5_take gi_62_1 = true := by decide +kernel
def gi_62 : List (List (Nat × Instr × Nat)) := [gi_62_0, gi_62_1]
theorem gv_62 : ∀ ch ∈ gi_62, g_okc cX5_take ch = true := List.forall_mem_cons.mpr ⟨gv_62_0, List.forall_mem_cons.mpr ⟨gv_62_1, fun _ h => absurd h List.not_mem_nil⟩⟩
def gi_63_0 : List (Nat × Instr × Nat) := [(0, .aload_n 2, 1), (1, .iconst 0, 1), (2, .aload_n 0, 1), (3, .iload_n 1, 1), (4, .invokevirtual 42, 3), (7, .i2l, 1), (8, .lastore, 1), (9, .goto 9, 3), (12, .astore_n 3, 1), (13, .iconst 1, 1), (14, .ireturn, 1), (15, .astore_n 3, 1), (16, .iconst 2, 1), (17, .ireturn, 1), (18, .iconst 0, 1), (19, .ireturn, 1)]
set_option maxRecDepth 100000 in
theorem gv_63_0 : g_okc cL_take gi_63_0 = true := by decide +kernel
def gi_63 : List (List (Nat × Instr × Nat)) := [gi_63_0]
theorem gv_63 : ∀ ch ∈ gi_63, g_okc cL_take ch = true := List.forall_mem_cons.mpr ⟨gv_63_0, fun _ h => absurd h List.not_mem_nil⟩
def gi_64_0 : List (Nat × Instr × Nat) := [(0, .aload_n 0, 1), (1, .iconst 0, 1), (2, .putfield 23, 3), (5, .aload_n 0, 1), (6, .iload_n 1, 1), (7, .invokevirtual 91, 3), (10, .ifCond .ne 9, 3), (13, .aload_n 0, 1), (14, .iconst 1, 1), (15, .invokevirtual 41, 3), (18, .ireturn, 1), (19, .aload_n 0, 1), (20, .getfield 10, 3), (23, .iload_n 1, 1), (24, .invokevirtual 60, 3), (27, .checkcast 81, 3), (30, .iconst 3, 1), (31, .iaload, 1)]
set_option maxRecDepth 100000 in
theorem gv_64_0 : g_okc cX7_take gi_64_0 = true := by decide +kernel
def gi_64_1 : List (Nat × Instr × Nat) := [(32, .istore_n 2, 1), (33, .iload_n 2, 1), (34, .iconst (-1), 1), (35, .if_icmp .eq 11, 3), (38, .aload_n 0, 1), (39, .iload_n 2, 1), (40, .invokevirtual 94, 3), (43, .ifCond .ne 9, 3), (46, .aload_n 0, 1), (47, .iconst 2, 1), (48, .invokevirtual 41, 3), (51, .ireturn, 1), (52, .aload_n 0, 1), (53, .getfield 10, 3), (56, .iload_n 1, 1), (57, .invokevirtual 60, 3), (60, .checkcast 81, 3), (63, .iconst 3, 1)]
set_option maxRecDepth 100000 in
theorem gv_64_1 : g_okc cX7_take gi_64_1 = true := by decide +kernel
def gi_64_2 : List (Nat × Instr × Nat) := [(64, .iconst (-1), 1), (65, .iastore, 1), (66, .aload_n 0, 1), (67, .iload_n 2, 1), (68, .invokevirtual 97, 3), (71, .iload_n 2, 1), (72, .ireturn, 1)]
set_option maxRecDepth 100000 in
theorem gv_64_2 : g_okc cX7_take gi_64_2 = true := by decide +kernel
def gi_64 : List (List (Nat × Instr × Nat)) := [gi_64_0, gi_64_1, gi_64_2]
theorem gv_64 : ∀ ch ∈ gi_64, g_okc cX7_take ch = true := List.forall_mem_cons.mpr ⟨gv_64_0, List.forall_mem_cons.mpr ⟨gv_64_1, List.forall_mem_cons.mpr ⟨gv_64_2, fun _ h => absurd h List.not_mem_nil⟩⟩⟩
def gi_65_0 : List (Nat × Instr × Nat) := [(0, .aload_n 0, 1), (1, .getfield 17, 3), (4, .ifCond .eq 7, 3), (7, .iconst 0, 1), (8, .goto 12, 3), (11, .aload_n 0, 1), (12, .getfield 29, 3), (15, .aload_n 0, 1), (16, .getfield 26, 3), (19, .isub, 1), (20, .ireturn, 1)]
set_option maxRecDepth 100000 in
theorem gv_65_0 : g_okc cX0_difference gi_65_0 = true := by decide +kernel
def gi_65 : List (List (Nat × Instr × Nat)) := [gi_65_0]
theorem gv_65 : ∀ ch ∈ gi_65, g_okc cX0_difference ch = true := List.forall_mem_cons.mpr ⟨gv_65_0, fun _ h => absurd h List.not_mem_nil⟩
def gi_66_0 : List (Nat × Instr × Nat) := [(0, .aload_n 0, 1), (1, .getfield 10, 3), (4, .iload_n 1, 1), (5, .invokevirtual 102, 3), (8, .astore_n 3, 1), (9, .iload_n 2, 1), (10, .ifCond .lt 10, 3), (13, .iload_n 2, 1), (14, .sipush 300, 3), (17, .if_icmp .le 13, 3), (20, .new 30, 3), (23, .dup, 1), (24, .ldc 178, 2), (26, .invokespecial 34, 3), (29, .athrow, 1), (30, .aload_n 3, 1), (31, .getfield 50, 3)]
set_option maxRecDepth 100000 in
theorem gv_66_0 : g_okc cX5_counter gi_66_0 = true := by decide +kernel
def gi_66_1 : List (Nat × Instr × Nat) := [(34, .ifCond .eq 13, 3), (37, .new 41, 3), (40, .dup, 1), (41, .ldc 180, 2), (43, .invokespecial 45, 3), (46, .athrow, 1), (47, .aload_n 0, 1), (48, .aload_n 3, 1), (49, .invokevirtual 164, 3), (52, .aload_n 3, 1), (53, .iload_n 2, 1), (54, .putfield 182, 3), (57, .aload_n 3, 1), (58, .invokevirtual 185, 3), (61, .ireturn, 1)]
set_option maxRecDepth 100000 in
theorem gv_66_1 : g_okc cX5_counter gi_66_1 = true := by decide +kernel
def gi_66 : List (List (Nat × Instr × Nat)) := [gi_66_0, gi_66_1]
theorem gv_66 : ∀ ch ∈ gi_66, g_okc cX5_counter ch = true := List.forall_mem_cons.mpr ⟨gv_66_0, List.forall_mem_cons.mpr ⟨gv_66_1, fun _ h => absurd h List.not_mem_nil⟩⟩
def gi_67_0 : List (Nat × Instr × Nat) := [(0, .aload_n 3, 1), (1, .iconst 0, 1), (2, .aload_n 0, 1), (3, .iload_n 1, 1), (4, .iload_n 2, 1), (5, .invokevirtual 45, 3), (8, .i2l, 1), (9, .lastore, 1), (10, .goto 15, 3), (13, .astore 4, 2), (15, .iconst 1, 1), (16, .ireturn, 1), (17, .astore 4, 2), (19, .iconst 2, 1), (20, .ireturn, 1), (21, .astore 4, 2), (23, .iconst 3, 1), (24, .ireturn, 1), (25, .iconst 0, 1), (26, .ireturn, 1)]
set_option maxRecDepth 100000 in
theorem gv_67_0 : g_okc cL_counter gi_67_0 = true := by decide +kernel
def gi_67 : List (List (Nat × Instr × Nat)) := [gi_67_0]
theorem gv_67 : ∀ ch ∈ gi_67, g_okc cL_counter ch = true := List.forall_mem_cons.mpr ⟨gv_67_0, fun _ h => absurd h List.not_mem_nil⟩
def gi_68_0 : List (Nat × Instr × Nat) := [(0, .aload_n 0, 1), (1, .iconst 0, 1), (2, .iaload, 1), (3, .iconst 1, 1), (4, .if_icmp .ne 7, 3), (7, .iconst 0, 1), (8, .goto 11, 3), (11, .aload_n 0, 1), (12, .bipush 8, 2), (14, .iaload, 1), (15, .aload_n 0, 1), (16, .iconst 3, 1), (17, .iaload, 1), (18, .isub, 1), (19, .ireturn, 1)]
set_option maxRecDepth 100000 in
theorem gv_68_0 : g_okc cX6_difference gi_68_0 = true := by decide +kernel
def gi_68 : List (List (Nat × Instr × Nat)) := [gi_68_0]
theorem gv_68 : ∀ ch ∈ gi_68, g_okc cX6_difference ch = true := List.forall_mem_cons.mpr ⟨gv_68_0, fun _ h => absurd h List.not_mem_nil⟩
def gi_69_0 : List (Nat × Instr × Nat) := [(0, .aload_n 0, 1), (1, .iconst 0, 1), (2, .putfield 23, 3), (5, .aload_n 0, 1), (6, .iload_n 1, 1), (7, .invokevirtual 57, 3), (10, .ifCond .ne 9, 3), (13, .aload_n 0, 1), (14, .iconst 1, 1), (15, .invokevirtual 41, 3), (18, .ireturn, 1), (19, .iload_n 2, 1), (20, .iconst 0, 1), (21, .sipush 300, 3), (24, .invokestatic 34, 3), (27, .ifCond .ne 9, 3), (30, .aload_n 0, 1), (31, .iconst 2, 1)]
set_option maxRecDepth 100000 in
theorem gv_69_0 : g_okc cX7_counter gi_69_0 = true := by decide +kernel
def gi_69_1 : List (Nat × Instr × Nat) := [(32, .invokevirtual 41, 3), (35, .ireturn, 1), (36, .aload_n 0, 1), (37, .getfield 19, 3), (40, .getfield 27, 3), (43, .iload_n 1, 1), (44, .invokevirtual 60, 3), (47, .checkcast 81, 3), (50, .astore_n 3, 1), (51, .aload_n 3, 1), (52, .iconst 0, 1), (53, .iaload, 1), (54, .iconst 1, 1), (55, .if_icmp .eq 11, 3), (58, .aload_n 0, 1), (59, .iload_n 1, 1), (60, .invokevirtual 94, 3), (63, .ifCond .ne 9, 3)]
set_option maxRecDepth 100000 in
theorem gv_69_1 : g_okc cX7_counter gi_69_1 = true := by decide +kernel
def gi_69_2 : List (Nat × Instr × Nat) := [(66, .aload_n 0, 1), (67, .iconst 3, 1), (68, .invokevirtual 41, 3), (71, .ireturn, 1), (72, .aload_n 3, 1), (73, .iconst 3, 1), (74, .iload_n 2, 1), (75, .iastore, 1), (76, .aload_n 3, 1), (77, .invokestatic 101, 3), (80, .ireturn, 1)]
set_option maxRecDepth 100000 in
theorem gv_69_2 : g_okc cX7_counter gi_69_2 = true := by decide +kernel
def gi_69 : List (List (Nat × Instr × Nat)) := [gi_69_0, gi_69_1, gi_69_2]
theorem gv_69 : ∀ ch ∈ gi_69, g_okc cX7_counter ch = true := List.forall_mem_cons.mpr ⟨gv_69_0, List.forall_mem_cons.mpr ⟨gv_69_1, List.forall_mem_cons.mpr ⟨gv_69_2, fun _ h => absurd h List.not_mem_nil⟩⟩⟩
def gi_70_0 : List (Nat × Instr × Nat) := [(0, .iconst 0, 1), (1, .istore_n 1, 1), (2, .iload_n 1, 1), (3, .aload_n 0, 1), (4, .getfield 22, 3), (7, .if_icmp .ge 29, 3), (10, .aload_n 0, 1), (11, .getfield 17, 3), (14, .iload_n 1, 1), (15, .aaload, 1), (16, .iconst 0, 1), (17, .putfield 39, 3), (20, .aload_n 0, 1), (21, .getfield 17, 3), (24, .iload_n 1, 1), (25, .aaload, 1), (26, .iconst 0, 1), (27, .putfield 42, 3), (30, .iinc 1 1, 3)]
set_option maxRecDepth 100000 in
theorem gv_70_0 : g_okc cX1_openAll gi_70_0 = true := by decide +kernel
def gi_70_1 : List (Nat × Instr × Nat) := [(33, .goto (-31), 3), (36, .return_, 1)]
set_option maxRecDepth 100000 in
theorem gv_70_1 : g_okc cX1_openAll gi_70_1 = true := by decide +kernel
def gi_70 : List (List (Nat × Instr × Nat)) := [gi_70_0, gi_70_1]
theorem gv_70 : ∀ ch ∈ gi_70, g_okc cX1_openAll ch = true := List.forall_mem_cons.mpr ⟨gv_70_0, List.forall_mem_cons.mpr ⟨gv_70_1, fun _ h => absurd h List.not_mem_nil⟩⟩
def gi_71_0 : List (Nat × Instr × Nat) := [(0, .aload_n 0, 1), (1, .iload_n 1, 1), (2, .invokevirtual 96, 3), (5, .invokevirtual 100, 3), (8, .aload_n 0, 1), (9, .iload_n 1, 1), (10, .putfield 15, 3), (13, .aload_n 0, 1), (14, .iconst 0, 1), (15, .putfield 56, 3), (18, .aload_n 0, 1), (19, .iconst 0, 1), (20, .putfield 60, 3), (23, .return_, 1)]
set_option maxRecDepth 100000 in
theorem gv_71_0 : g_okc cX4_begin gi_71_0 = true := by decide +kernel
def gi_71 : List (List (Nat × Instr × Nat)) := [gi_71_0]
theorem gv_71 : ∀ ch ∈ gi_71, g_okc cX4_begin ch = true := List.forall_mem_cons.mpr ⟨gv_71_0, fun _ h => absurd h List.not_mem_nil⟩
def gi_72_0 : List (Nat × Instr × Nat) := [(0, .aload_n 0, 1), (1, .getfield 10, 3), (4, .iload_n 1, 1), (5, .invokevirtual 98, 3), (8, .astore_n 2, 1), (9, .aload_n 0, 1), (10, .getfield 10, 3), (13, .getfield 112, 3), (16, .iconst (-1), 1), (17, .if_icmp .eq 13, 3), (20, .new 41, 3), (23, .dup, 1), (24, .ldc 189, 2), (26, .invokespecial 45, 3), (29, .athrow, 1), (30, .aload_n 0, 1), (31, .getfield 10, 3)]
set_option maxRecDepth 100000 in
theorem gv_72_0 : g_okc cX5_go gi_72_0 = true := by decide +kernel
def gi_72_1 : List (Nat × Instr × Nat) := [(34, .iload_n 1, 1), (35, .invokevirtual 191, 3), (38, .aload_n 2, 1), (39, .getfield 117, 3), (42, .ireturn, 1)]
set_option maxRecDepth 100000 in
theorem gv_72_1 : g_okc cX5_go gi_72_1 = true := by decide +kernel
def gi_72 : List (List (Nat × Instr × Nat)) := [gi_72_0, gi_72_1]
theorem gv_72 : ∀ ch ∈ gi_72, g_okc cX5_go ch = true := List.forall_mem_cons.mpr ⟨gv_72_0, List.forall_mem_cons.mpr ⟨gv_72_1, fun _ h => absurd h List.not_mem_nil⟩⟩
def gi_73_0 : List (Nat × Instr × Nat) := [(0, .aload_n 2, 1), (1, .iconst 0, 1), (2, .aload_n 0, 1), (3, .iload_n 1, 1), (4, .invokevirtual 48, 3), (7, .i2l, 1), (8, .lastore, 1), (9, .goto 9, 3), (12, .astore_n 3, 1), (13, .iconst 1, 1), (14, .ireturn, 1), (15, .astore_n 3, 1), (16, .iconst 2, 1), (17, .ireturn, 1), (18, .iconst 0, 1), (19, .ireturn, 1)]
set_option maxRecDepth 100000 in
theorem gv_73_0 : g_okc cL_go gi_73_0 = true := by decide +kernel
def gi_73 : List (List (Nat × Instr × Nat)) := [gi_73_0]
theorem gv_73 : ∀ ch ∈ gi_73, g_okc cL_go ch = true := List.forall_mem_cons.mpr ⟨gv_73_0, fun _ h => absurd h List.not_mem_nil⟩
def gi_74_0 : List (Nat × Instr × Nat) := [(0, .aload_n 0, 1), (1, .iload_n 1, 1), (2, .putfield 29, 3), (5, .aload_n 0, 1), (6, .iconst 0, 1), (7, .putfield 64, 3), (10, .aload_n 0, 1), (11, .iconst 0, 1), (12, .putfield 68, 3), (15, .aload_n 0, 1), (16, .getfield 18, 3), (19, .iload_n 1, 1), (20, .invokevirtual 71, 3), (23, .checkcast 9, 3), (26, .invokevirtual 36, 3), (29, .astore_n 2, 1), (30, .aload_n 2, 1), (31, .invokeinterface 40 1, 5)]
set_option maxRecDepth 100000 in
theorem gv_74_0 : g_okc cX6_begin gi_74_0 = true := by decide +kernel
def gi_74_1 : List (Nat × Instr × Nat) := [(36, .ifCond .eq 24, 3), (39, .aload_n 2, 1), (40, .invokeinterface 46 1, 5), (45, .checkcast 50, 3), (48, .astore_n 3, 1), (49, .aload_n 3, 1), (50, .iconst 4, 1), (51, .iconst 0, 1), (52, .iastore, 1), (53, .aload_n 3, 1), (54, .iconst 5, 1), (55, .iconst 0, 1), (56, .iastore, 1), (57, .goto (-27), 3), (60, .return_, 1)]
set_option maxRecDepth 100000 in
theorem gv_74_1 : g_okc cX6_begin gi_74_1 = true := by decide +kernel
def gi_74 : List (List (Nat × Instr × Nat)) := [gi_74_0, gi_74_1]
theorem gv_74 : ∀ ch ∈ gi_74, g_okc cX6_begin ch = true := List.forall_mem_cons.mpr ⟨gv_74_0, List.forall_mem_cons.mpr ⟨gv_74_1, fun _ h => absurd h List.not_mem_nil⟩⟩
def gi_75_0 : List (Nat × Instr × Nat) := [(0, .aload_n 0, 1), (1, .iconst 0, 1), (2, .putfield 23, 3), (5, .aload_n 0, 1), (6, .iload_n 1, 1), (7, .invokevirtual 53, 3), (10, .ifCond .ne 9, 3), (13, .aload_n 0, 1), (14, .iconst 1, 1), (15, .invokevirtual 41, 3), (18, .ireturn, 1), (19, .aload_n 0, 1), (20, .getfield 19, 3), (23, .getfield 64, 3), (26, .iconst (-1), 1), (27, .if_icmp .eq 9, 3), (30, .aload_n 0, 1), (31, .iconst 2, 1)]
set_option maxRecDepth 100000 in
theorem gv_75_0 : g_okc cX7_go gi_75_0 = true := by decide +kernel
def gi_75_1 : List (Nat × Instr × Nat) := [(32, .invokevirtual 41, 3), (35, .ireturn, 1), (36, .aload_n 0, 1), (37, .getfield 19, 3), (40, .iload_n 1, 1), (41, .invokevirtual 105, 3), (44, .aload_n 0, 1), (45, .getfield 19, 3), (48, .getfield 38, 3), (51, .iload_n 1, 1), (52, .invokevirtual 60, 3), (55, .checkcast 7, 3), (58, .invokevirtual 30, 3), (61, .ireturn, 1)]
set_option maxRecDepth 100000 in
theorem gv_75_1 : g_okc cX7_go gi_75_1 = true := by decide +kernel
def gi_75 : List (List (Nat × Instr × Nat)) := [gi_75_0, gi_75_1]
theorem gv_75 : ∀ ch ∈ gi_75, g_okc cX7_go ch = true := List.forall_mem_cons.mpr ⟨gv_75_0, List.forall_mem_cons.mpr ⟨gv_75_1, fun _ h => absurd h List.not_mem_nil⟩⟩
def gi_76_0 : List (Nat × Instr × Nat) := [(0, .aload_n 0, 1), (1, .getfield 10, 3), (4, .getfield 112, 3), (7, .iconst (-1), 1), (8, .if_icmp .ne 14, 3), (11, .new 41, 3), (14, .dup, 1), (15, .ldc_w 334, 3), (18, .invokespecial 45, 3), (21, .athrow, 1), (22, .return_, 1)]
set_option maxRecDepth 100000 in
theorem gv_76_0 : g_okc cX5_refuseUnlessRunning gi_76_0 = true := by decide +kernel
def gi_76 : List (List (Nat × Instr × Nat)) := [gi_76_0]
theorem gv_76 : ∀ ch ∈ gi_76, g_okc cX5_refuseUnlessRunning ch = true := List.forall_mem_cons.mpr ⟨gv_76_0, fun _ h => absurd h List.not_mem_nil⟩
def gi_77_0 : List (Nat × Instr × Nat) := [(0, .aload_n 0, 1), (1, .invokevirtual 195, 3), (4, .aload_n 0, 1), (5, .getfield 10, 3), (8, .getfield 198, 3), (11, .istore_n 2, 1), (12, .aload_n 0, 1), (13, .getfield 10, 3), (16, .iload_n 1, 1), (17, .putfield 198, 3), (20, .iload_n 2, 1), (21, .ireturn, 1)]
set_option maxRecDepth 100000 in
theorem gv_77_0 : g_okc cX5_stop gi_77_0 = true := by decide +kernel
def gi_77 : List (List (Nat × Instr × Nat)) := [gi_77_0]
theorem gv_77 : ∀ ch ∈ gi_77, g_okc cX5_stop ch = true := List.forall_mem_cons.mpr ⟨gv_77_0, fun _ h => absurd h List.not_mem_nil⟩
def gi_78_0 : List (Nat × Instr × Nat) := [(0, .aload_n 2, 1), (1, .iconst 0, 1), (2, .aload_n 0, 1), (3, .iload_n 1, 1), (4, .invokevirtual 51, 3), (7, .ifCond .eq 7, 3), (10, .lconst 1, 1), (11, .goto 4, 3), (14, .lconst 0, 1), (15, .lastore, 1), (16, .goto 6, 3), (19, .astore_n 3, 1), (20, .iconst 1, 1), (21, .ireturn, 1), (22, .iconst 0, 1), (23, .ireturn, 1)]
set_option maxRecDepth 100000 in
theorem gv_78_0 : g_okc cL_stop gi_78_0 = true := by decide +kernel
def gi_78 : List (List (Nat × Instr × Nat)) := [gi_78_0]
theorem gv_78 : ∀ ch ∈ gi_78, g_okc cL_stop ch = true := List.forall_mem_cons.mpr ⟨gv_78_0, fun _ h => absurd h List.not_mem_nil⟩
def gi_79_0 : List (Nat × Instr × Nat) := [(0, .aload_n 0, 1), (1, .aload_n 0, 1), (2, .getfield 19, 3), (5, .getfield 64, 3), (8, .iconst (-1), 1), (9, .if_icmp .ne 7, 3), (12, .iconst 1, 1), (13, .goto 4, 3), (16, .iconst 0, 1), (17, .putfield 23, 3), (20, .aload_n 0, 1), (21, .getfield 23, 3), (24, .ifCond .le 5, 3), (27, .iconst 0, 1), (28, .ireturn, 1), (29, .aload_n 0, 1), (30, .getfield 19, 3)]
set_option maxRecDepth 100000 in
theorem gv_79_0 : g_okc cX7_stop gi_79_0 = true := by decide +kernel
def gi_79_1 : List (Nat × Instr × Nat) := [(33, .getfield 108, 3), (36, .istore_n 2, 1), (37, .aload_n 0, 1), (38, .getfield 19, 3), (41, .iload_n 1, 1), (42, .putfield 108, 3), (45, .iload_n 2, 1), (46, .ireturn, 1)]
set_option maxRecDepth 100000 in
theorem gv_79_1 : g_okc cX7_stop gi_79_1 = true := by decide +kernel
def gi_79 : List (List (Nat × Instr × Nat)) := [gi_79_0, gi_79_1]
theorem gv_79 : ∀ ch ∈ gi_79, g_okc cX7_stop ch = true := List.forall_mem_cons.mpr ⟨gv_79_0, List.forall_mem_cons.mpr ⟨gv_79_1, fun _ h => absurd h List.not_mem_nil⟩⟩
def gi_80_0 : List (Nat × Instr × Nat) := [(0, .iconst 0, 1), (1, .istore_n 1, 1), (2, .iconst 0, 1), (3, .istore_n 2, 1), (4, .iload_n 2, 1), (5, .aload_n 0, 1), (6, .getfield 22, 3), (9, .if_icmp .ge 24, 3), (12, .aload_n 0, 1), (13, .getfield 17, 3), (16, .iload_n 2, 1), (17, .aaload, 1), (18, .getfield 39, 3), (21, .ifCond .ne 6, 3), (24, .iinc 1 1, 3), (27, .iinc 2 1, 3), (30, .goto (-26), 3)]
set_option maxRecDepth 100000 in
theorem gv_80_0 : g_okc cX1_openMoves gi_80_0 = true := by decide +kernel
def gi_80_1 : List (Nat × Instr × Nat) := [(33, .iload_n 1, 1), (34, .ireturn, 1)]
set_option maxRecDepth 100000 in
theorem gv_80_1 : g_okc cX1_openMoves gi_80_1 = true := by decide +kernel
def gi_80 : List (List (Nat × Instr × Nat)) := [gi_80_0, gi_80_1]
theorem gv_80 : ∀ ch ∈ gi_80, g_okc cX1_openMoves ch = true := List.forall_mem_cons.mpr ⟨gv_80_0, List.forall_mem_cons.mpr ⟨gv_80_1, fun _ h => absurd h List.not_mem_nil⟩⟩
def gi_81_0 : List (Nat × Instr × Nat) := [(0, .aload_n 0, 1), (1, .getfield 15, 3), (4, .iconst (-1), 1), (5, .if_icmp .ne 7, 3), (8, .iconst 0, 1), (9, .goto 14, 3), (12, .aload_n 0, 1), (13, .aload_n 0, 1), (14, .getfield 15, 3), (17, .invokevirtual 96, 3), (20, .invokevirtual 103, 3), (23, .ireturn, 1)]
set_option maxRecDepth 100000 in
theorem gv_81_0 : g_okc cX4_openMoves gi_81_0 = true := by decide +kernel
def gi_81 : List (List (Nat × Instr × Nat)) := [gi_81_0]
theorem gv_81 : ∀ ch ∈ gi_81, g_okc cX4_openMoves ch = true := List.forall_mem_cons.mpr ⟨gv_81_0, fun _ h => absurd h List.not_mem_nil⟩
def gi_82_0 : List (Nat × Instr × Nat) := [(0, .aload_n 0, 1), (1, .iconst (-1), 1), (2, .putfield 15, 3), (5, .aload_n 0, 1), (6, .iconst 0, 1), (7, .putfield 56, 3), (10, .aload_n 0, 1), (11, .iconst 0, 1), (12, .putfield 60, 3), (15, .return_, 1)]
set_option maxRecDepth 100000 in
theorem gv_82_0 : g_okc cX4_rest gi_82_0 = true := by decide +kernel
def gi_82 : List (List (Nat × Instr × Nat)) := [gi_82_0]
theorem gv_82 : ∀ ch ∈ gi_82, g_okc cX4_rest ch = true := List.forall_mem_cons.mpr ⟨gv_82_0, fun _ h => absurd h List.not_mem_nil⟩
def gi_83_0 : List (Nat × Instr × Nat) := [(0, .aload_n 0, 1), (1, .invokevirtual 195, 3), (4, .aload_n 0, 1), (5, .getfield 10, 3), (8, .invokevirtual 201, 3), (11, .istore_n 1, 1), (12, .aload_n 0, 1), (13, .getfield 10, 3), (16, .invokevirtual 204, 3), (19, .iload_n 1, 1), (20, .ireturn, 1)]
set_option maxRecDepth 100000 in
theorem gv_83_0 : g_okc cX5_end gi_83_0 = true := by decide +kernel
def gi_83 : List (List (Nat × Instr × Nat)) := [gi_83_0]
theorem gv_83 : ∀ ch ∈ gi_83, g_okc cX5_end ch = true := List.forall_mem_cons.mpr ⟨gv_83_0, fun _ h => absurd h List.not_mem_nil⟩
def gi_84_0 : List (Nat × Instr × Nat) := [(0, .aload_n 1, 1), (1, .iconst 0, 1), (2, .aload_n 0, 1), (3, .invokevirtual 55, 3), (6, .i2l, 1), (7, .lastore, 1), (8, .goto 6, 3), (11, .astore_n 2, 1), (12, .iconst 1, 1), (13, .ireturn, 1), (14, .iconst 0, 1), (15, .ireturn, 1)]
set_option maxRecDepth 100000 in
theorem gv_84_0 : g_okc cL_end gi_84_0 = true := by decide +kernel
def gi_84 : List (List (Nat × Instr × Nat)) := [gi_84_0]
theorem gv_84 : ∀ ch ∈ gi_84, g_okc cL_end ch = true := List.forall_mem_cons.mpr ⟨gv_84_0, fun _ h => absurd h List.not_mem_nil⟩
def gi_85_0 : List (Nat × Instr × Nat) := [(0, .iconst 0, 1), (1, .istore_n 1, 1), (2, .aload_n 0, 1), (3, .getfield 29, 3), (6, .iconst (-1), 1), (7, .if_icmp .ne 5, 3), (10, .iconst 0, 1), (11, .ireturn, 1), (12, .aload_n 0, 1), (13, .getfield 18, 3), (16, .aload_n 0, 1), (17, .getfield 29, 3), (20, .invokevirtual 71, 3), (23, .checkcast 9, 3), (26, .invokevirtual 36, 3), (29, .astore_n 2, 1), (30, .aload_n 2, 1), (31, .invokeinterface 40 1, 5)]
set_option maxRecDepth 100000 in
theorem gv_85_0 : g_okc cX6_open gi_85_0 = true := by decide +kernel
def gi_85_1 : List (Nat × Instr × Nat) := [(36, .ifCond .eq 30, 3), (39, .aload_n 2, 1), (40, .invokeinterface 46 1, 5), (45, .checkcast 50, 3), (48, .astore_n 3, 1), (49, .iload_n 1, 1), (50, .aload_n 3, 1), (51, .iconst 4, 1), (52, .iaload, 1), (53, .ifCond .ne 7, 3), (56, .iconst 1, 1), (57, .goto 4, 3), (60, .iconst 0, 1), (61, .iadd, 1), (62, .istore_n 1, 1), (63, .goto (-33), 3)]
set_option maxRecDepth 100000 in
theorem gv_85_1 : g_okc cX6_open gi_85_1 = true := by decide +kernel
def gi_85_2 : List (Nat × Instr × Nat) := [(66, .iload_n 1, 1), (67, .ireturn, 1)]
set_option maxRecDepth 100000 in
theorem gv_85_2 : g_okc cX6_open gi_85_2 = true := by decide +kernel
def gi_85 : List (List (Nat × Instr × Nat)) := [gi_85_0, gi_85_1, gi_85_2]
theorem gv_85 : ∀ ch ∈ gi_85, g_okc cX6_open ch = true := List.forall_mem_cons.mpr ⟨gv_85_0, List.forall_mem_cons.mpr ⟨gv_85_1, List.forall_mem_cons.mpr ⟨gv_85_2, fun _ h => absurd h List.not_mem_nil⟩⟩⟩
def gi_86_0 : List (Nat × Instr × Nat) := [(0, .aload_n 0, 1), (1, .iconst (-1), 1), (2, .putfield 29, 3), (5, .aload_n 0, 1), (6, .iconst 0, 1), (7, .putfield 64, 3), (10, .aload_n 0, 1), (11, .iconst 0, 1), (12, .putfield 68, 3), (15, .return_, 1)]
set_option maxRecDepth 100000 in
theorem gv_86_0 : g_okc cX6_end gi_86_0 = true := by decide +kernel
def gi_86 : List (List (Nat × Instr × Nat)) := [gi_86_0]
theorem gv_86 : ∀ ch ∈ gi_86, g_okc cX6_end ch = true := List.forall_mem_cons.mpr ⟨gv_86_0, fun _ h => absurd h List.not_mem_nil⟩
def gi_87_0 : List (Nat × Instr × Nat) := [(0, .aload_n 0, 1), (1, .iconst 0, 1), (2, .putfield 23, 3), (5, .aload_n 0, 1), (6, .getfield 19, 3), (9, .getfield 64, 3), (12, .iconst (-1), 1), (13, .if_icmp .ne 9, 3), (16, .aload_n 0, 1), (17, .iconst 1, 1), (18, .invokevirtual 41, 3), (21, .ireturn, 1), (22, .aload_n 0, 1), (23, .getfield 19, 3), (26, .invokevirtual 112, 3), (29, .istore_n 1, 1), (30, .aload_n 0, 1), (31, .getfield 19, 3)]
set_option maxRecDepth 100000 in
theorem gv_87_0 : g_okc cX7_end gi_87_0 = true := by decide +kernel
def gi_87_1 : List (Nat × Instr × Nat) := [(34, .invokevirtual 115, 3), (37, .iload_n 1, 1), (38, .ireturn, 1)]
set_option maxRecDepth 100000 in
theorem gv_87_1 : g_okc cX7_end gi_87_1 = true := by decide +kernel
def gi_87 : List (List (Nat × Instr × Nat)) := [gi_87_0, gi_87_1]
theorem gv_87 : ∀ ch ∈ gi_87, g_okc cX7_end ch = true := List.forall_mem_cons.mpr ⟨gv_87_0, List.forall_mem_cons.mpr ⟨gv_87_1, fun _ h => absurd h List.not_mem_nil⟩⟩
def gi_88_0 : List (Nat × Instr × Nat) := [(0, .aload_n 0, 1), (1, .getfield 10, 3), (4, .iload_n 1, 1), (5, .invokevirtual 102, 3), (8, .astore_n 3, 1), (9, .aload_n 3, 1), (10, .getfield 207, 3), (13, .istore 4, 2), (15, .aload_n 3, 1), (16, .iload_n 2, 1), (17, .putfield 207, 3), (20, .iload 4, 2), (22, .ireturn, 1)]
set_option maxRecDepth 100000 in
theorem gv_88_0 : g_okc cX5_brake gi_88_0 = true := by decide +kernel
def gi_88 : List (List (Nat × Instr × Nat)) := [gi_88_0]
theorem gv_88 : ∀ ch ∈ gi_88, g_okc cX5_brake ch = true := List.forall_mem_cons.mpr ⟨gv_88_0, fun _ h => absurd h List.not_mem_nil⟩
def gi_89_0 : List (Nat × Instr × Nat) := [(0, .aload_n 3, 1), (1, .iconst 0, 1), (2, .aload_n 0, 1), (3, .iload_n 1, 1), (4, .iload_n 2, 1), (5, .invokevirtual 59, 3), (8, .ifCond .eq 7, 3), (11, .lconst 1, 1), (12, .goto 4, 3), (15, .lconst 0, 1), (16, .lastore, 1), (17, .goto 7, 3), (20, .astore 4, 2), (22, .iconst 1, 1), (23, .ireturn, 1), (24, .iconst 0, 1), (25, .ireturn, 1)]
set_option maxRecDepth 100000 in
theorem gv_89_0 : g_okc cL_brake gi_89_0 = true := by decide +kernel
def gi_89 : List (List (Nat × Instr × Nat)) := [gi_89_0]
theorem gv_89 : ∀ ch ∈ gi_89, g_okc cL_brake ch = true := List.forall_mem_cons.mpr ⟨gv_89_0, fun _ h => absurd h List.not_mem_nil⟩
def gi_90_0 : List (Nat × Instr × Nat) := [(0, .aload_n 0, 1), (1, .aload_n 0, 1), (2, .iload_n 1, 1), (3, .invokevirtual 57, 3), (6, .ifCond .eq 7, 3), (9, .iconst 0, 1), (10, .goto 4, 3), (13, .iconst 1, 1), (14, .putfield 23, 3), (17, .aload_n 0, 1), (18, .getfield 23, 3), (21, .ifCond .le 5, 3), (24, .iconst 0, 1), (25, .ireturn, 1), (26, .aload_n 0, 1), (27, .getfield 19, 3), (30, .getfield 27, 3)]
set_option maxRecDepth 100000 in
theorem gv_90_0 : g_okc cX7_brake gi_90_0 = true := by decide +kernel
def gi_90_1 : List (Nat × Instr × Nat) := [(33, .iload_n 1, 1), (34, .invokevirtual 60, 3), (37, .checkcast 81, 3), (40, .bipush 6, 2), (42, .iaload, 1), (43, .iconst 1, 1), (44, .if_icmp .ne 7, 3), (47, .iconst 1, 1), (48, .goto 4, 3), (51, .iconst 0, 1), (52, .istore_n 3, 1), (53, .aload_n 0, 1), (54, .getfield 19, 3), (57, .getfield 27, 3), (60, .iload_n 1, 1), (61, .invokevirtual 60, 3)]
set_option maxRecDepth 100000 in
theorem gv_90_1 : g_okc cX7_brake gi_90_1 = true := by decide +kernel
def gi_90_2 : List (Nat × Instr × Nat) := [(64, .checkcast 81, 3), (67, .bipush 6, 2), (69, .iload_n 2, 1), (70, .ifCond .eq 7, 3), (73, .iconst 1, 1), (74, .goto 4, 3), (77, .iconst 0, 1), (78, .iastore, 1), (79, .iload_n 3, 1), (80, .ireturn, 1)]
set_option maxRecDepth 100000 in
theorem gv_90_2 : g_okc cX7_brake gi_90_2 = true := by decide +kernel
def gi_90 : List (List (Nat × Instr × Nat)) := [gi_90_0, gi_90_1, gi_90_2]
theorem gv_90 : ∀ ch ∈ gi_90, g_okc cX7_brake ch = true := List.forall_mem_cons.mpr ⟨gv_90_0, List.forall_mem_cons.mpr ⟨gv_90_1, List.forall_mem_cons.mpr ⟨gv_90_2, fun _ h => absurd h List.not_mem_nil⟩⟩⟩
def gi_91_0 : List (Nat × Instr × Nat) := [(0, .aload_n 0, 1), (1, .invokevirtual 50, 3), (4, .istore_n 1, 1), (5, .iload_n 1, 1), (6, .ifCond .ge 8, 3), (9, .iload_n 1, 1), (10, .ineg, 1), (11, .goto 4, 3), (14, .iload_n 1, 1), (15, .ireturn, 1)]
set_option maxRecDepth 100000 in
theorem gv_91_0 : g_okc cX0_differenceWithoutSign gi_91_0 = true := by decide +kernel
def gi_91 : List (List (Nat × Instr × Nat)) := [gi_91_0]
theorem gv_91 : ∀ ch ∈ gi_91, g_okc cX0_differenceWithoutSign ch = true := List.forall_mem_cons.mpr ⟨gv_91_0, fun _ h => absurd h List.not_mem_nil⟩
def gi_92_0 : List (Nat × Instr × Nat) := [(0, .aload_n 2, 1), (1, .invokevirtual 156, 3), (4, .bipush 10, 2), (6, .if_icmp .le 20, 3), (9, .aload_n 1, 1), (10, .iconst 2, 1), (11, .putfield 133, 3), (14, .aload_n 0, 1), (15, .dup, 1), (16, .getfield 69, 3), (19, .iconst 1, 1), (20, .iadd, 1), (21, .putfield 69, 3), (24, .iconst 0, 1), (25, .ireturn, 1), (26, .aload_n 2, 1), (27, .getfield 159, 3), (30, .ifCond .ne 14, 3)]
set_option maxRecDepth 100000 in
theorem gv_92_0 : g_okc cX4_mayGo gi_92_0 = true := by decide +kernel
def gi_92_1 : List (Nat × Instr × Nat) := [(33, .aload_n 0, 1), (34, .getfield 50, 3), (37, .ifCond .ne 7, 3), (40, .iconst 1, 1), (41, .goto 4, 3), (44, .iconst 0, 1), (45, .istore_n 3, 1), (46, .iload_n 3, 1), (47, .ifCond .ne 17, 3), (50, .aload_n 2, 1), (51, .getfield 162, 3), (54, .ifCond .eq 32, 3), (57, .aload_n 2, 1), (58, .getfield 165, 3), (61, .ifCond .ne 25, 3)]
set_option maxRecDepth 100000 in
theorem gv_92_1 : g_okc cX4_mayGo gi_92_1 = true := by decide +kernel
def gi_92_2 : List (Nat × Instr × Nat) := [(64, .aload_n 1, 1), (65, .dup, 1), (66, .getfield 168, 3), (69, .iconst 1, 1), (70, .iadd, 1), (71, .putfield 168, 3), (74, .aload_n 0, 1), (75, .dup, 1), (76, .getfield 81, 3), (79, .iconst 1, 1), (80, .iadd, 1), (81, .putfield 81, 3), (84, .iconst 0, 1), (85, .ireturn, 1), (86, .iconst 1, 1), (87, .ireturn, 1)]
set_option maxRecDepth 100000 in
theorem gv_92_2 : g_okc cX4_mayGo gi_92_2 = true := by decide +kernel
def gi_92 : List (List (Nat × Instr × Nat)) := [gi_92_0, gi_92_1, gi_92_2]
theorem gv_92 : ∀ ch ∈ gi_92, g_okc cX4_mayGo ch = true := List.forall_mem_cons.mpr ⟨gv_92_0, List.forall_mem_cons.mpr ⟨gv_92_1, List.forall_mem_cons.mpr ⟨gv_92_2, fun _ h => absurd h List.not_mem_nil⟩⟩⟩
def gi_93_0 : List (Nat × Instr × Nat) := [(0, .aload_n 0, 1), (1, .getfield 13, 3), (4, .aload_n 2, 1), (5, .getfield 13, 3), (8, .if_icmp .ge 15, 3), (11, .aload_n 2, 1), (12, .getfield 13, 3), (15, .aload_n 0, 1), (16, .getfield 13, 3), (19, .isub, 1), (20, .goto 12, 3), (23, .aload_n 0, 1), (24, .getfield 13, 3), (27, .aload_n 2, 1), (28, .getfield 13, 3), (31, .isub, 1)]
set_option maxRecDepth 100000 in
theorem gv_93_0 : g_okc cX0_touchesAt gi_93_0 = true := by decide +kernel
def gi_93_1 : List (Nat × Instr × Nat) := [(32, .istore_n 3, 1), (33, .iload_n 3, 1), (34, .ifCond .eq 46, 3), (37, .iload_n 3, 1), (38, .aload_n 0, 1), (39, .getfield 35, 3), (42, .aload_n 2, 1), (43, .getfield 35, 3), (46, .iadd, 1), (47, .if_icmp .gt 33, 3), (50, .iload_n 1, 1), (51, .aload_n 0, 1), (52, .getfield 32, 3), (55, .isub, 1), (56, .aload_n 2, 1), (57, .getfield 23, 3), (60, .if_icmp .gt 20, 3), (63, .aload_n 2, 1)]
set_option maxRecDepth 100000 in
theorem gv_93_1 : g_okc cX0_touchesAt gi_93_1 = true := by decide +kernel
def gi_93_2 : List (Nat × Instr × Nat) := [(64, .getfield 23, 3), (67, .aload_n 2, 1), (68, .getfield 32, 3), (71, .isub, 1), (72, .iload_n 1, 1), (73, .if_icmp .gt 7, 3), (76, .iconst 1, 1), (77, .goto 4, 3), (80, .iconst 0, 1), (81, .ireturn, 1)]
set_option maxRecDepth 100000 in
theorem gv_93_2 : g_okc cX0_touchesAt gi_93_2 = true := by decide +kernel
def gi_93 : List (List (Nat × Instr × Nat)) := [gi_93_0, gi_93_1, gi_93_2]
theorem gv_93 : ∀ ch ∈ gi_93, g_okc cX0_touchesAt ch = true := List.forall_mem_cons.mpr ⟨gv_93_0, List.forall_mem_cons.mpr ⟨gv_93_1, List.forall_mem_cons.mpr ⟨gv_93_2, fun _ h => absurd h List.not_mem_nil⟩⟩⟩
def gi_94_0 : List (Nat × Instr × Nat) := [(0, .iconst 0, 1), (1, .istore_n 3, 1), (2, .iload_n 3, 1), (3, .aload_n 0, 1), (4, .getfield 37, 3), (7, .if_icmp .ge 42, 3), (10, .aload_n 1, 1), (11, .iload_n 2, 1), (12, .aload_n 0, 1), (13, .getfield 23, 3), (16, .iload_n 3, 1), (17, .aaload, 1), (18, .invokevirtual 194, 3), (21, .ifCond .eq 22, 3), (24, .aload_n 1, 1), (25, .aload_n 1, 1), (26, .getfield 107, 3), (29, .aload_n 0, 1), (30, .getfield 23, 3)]
set_option maxRecDepth 100000 in
theorem gv_94_0 : g_okc cX4_touchesAnew gi_94_0 = true := by decide +kernel
def gi_94_1 : List (Nat × Instr × Nat) := [(33, .iload_n 3, 1), (34, .aaload, 1), (35, .invokevirtual 194, 3), (38, .ifCond .ne 5, 3), (41, .iconst 1, 1), (42, .ireturn, 1), (43, .iinc 3 1, 3), (46, .goto (-44), 3), (49, .iconst 0, 1), (50, .ireturn, 1)]
set_option maxRecDepth 100000 in
theorem gv_94_1 : g_okc cX4_touchesAnew gi_94_1 = true := by decide +kernel
def gi_94 : List (List (Nat × Instr × Nat)) := [gi_94_0, gi_94_1]
theorem gv_94 : ∀ ch ∈ gi_94, g_okc cX4_touchesAnew ch = true := List.forall_mem_cons.mpr ⟨gv_94_0, List.forall_mem_cons.mpr ⟨gv_94_1, fun _ h => absurd h List.not_mem_nil⟩⟩
def gi_95_0 : List (Nat × Instr × Nat) := [(0, .aload_n 0, 1), (1, .dup, 1), (2, .getfield 44, 3), (5, .iload_n 1, 1), (6, .aload_n 0, 1), (7, .getfield 23, 3), (10, .if_icmp .ge 12, 3), (13, .aload_n 0, 1), (14, .getfield 23, 3), (17, .iload_n 1, 1), (18, .isub, 1), (19, .goto 9, 3), (22, .iload_n 1, 1), (23, .aload_n 0, 1), (24, .getfield 23, 3), (27, .isub, 1), (28, .iadd, 1), (29, .putfield 44, 3)]
set_option maxRecDepth 100000 in
theorem gv_95_0 : g_okc cX0_goTo gi_95_0 = true := by decide +kernel
def gi_95_1 : List (Nat × Instr × Nat) := [(32, .aload_n 0, 1), (33, .iload_n 1, 1), (34, .putfield 23, 3), (37, .return_, 1)]
set_option maxRecDepth 100000 in
theorem gv_95_1 : g_okc cX0_goTo gi_95_1 = true := by decide +kernel
def gi_95 : List (List (Nat × Instr × Nat)) := [gi_95_0, gi_95_1]
theorem gv_95 : ∀ ch ∈ gi_95, g_okc cX0_goTo ch = true := List.forall_mem_cons.mpr ⟨gv_95_0, List.forall_mem_cons.mpr ⟨gv_95_1, fun _ h => absurd h List.not_mem_nil⟩⟩
def gi_96_0 : List (Nat × Instr × Nat) := [(0, .aload_n 2, 1), (1, .getfield 159, 3), (4, .ifCond .ne 13, 3), (7, .aload_n 0, 1), (8, .dup, 1), (9, .getfield 50, 3), (12, .iconst 1, 1), (13, .isub, 1), (14, .putfield 50, 3), (17, .aload_n 1, 1), (18, .getfield 169, 3), (21, .ineg, 1), (22, .aload_n 1, 1), (23, .getfield 169, 3), (26, .aload_n 1, 1), (27, .getfield 172, 3), (30, .aload_n 2, 1), (31, .getfield 107, 3)]
set_option maxRecDepth 100000 in
theorem gv_96_0 : g_okc cX4_goNearer gi_96_0 = true := by decide +kernel
def gi_96_1 : List (Nat × Instr × Nat) := [(34, .isub, 1), (35, .invokestatic 175, 3), (38, .invokestatic 181, 3), (41, .istore_n 3, 1), (42, .aload_n 2, 1), (43, .getfield 107, 3), (46, .iload_n 3, 1), (47, .iadd, 1), (48, .istore 4, 2), (50, .aload_n 0, 1), (51, .aload_n 2, 1), (52, .iload 4, 2), (54, .invokevirtual 184, 3), (57, .ifCond .eq 27, 3), (60, .aload_n 0, 1), (61, .iconst 1, 1), (62, .putfield 56, 3)]
set_option maxRecDepth 100000 in
theorem gv_96_1 : g_okc cX4_goNearer gi_96_1 = true := by decide +kernel
def gi_96_2 : List (Nat × Instr × Nat) := [(65, .aload_n 0, 1), (66, .dup, 1), (67, .getfield 72, 3), (70, .iconst 1, 1), (71, .iadd, 1), (72, .putfield 72, 3), (75, .aload_n 0, 1), (76, .aload_n 2, 1), (77, .getfield 188, 3), (80, .putfield 18, 3), (83, .return_, 1), (84, .aload_n 2, 1), (85, .iload 4, 2), (87, .invokevirtual 191, 3), (90, .aload_n 2, 1), (91, .getfield 107, 3), (94, .aload_n 1, 1), (95, .getfield 172, 3)]
set_option maxRecDepth 100000 in
theorem gv_96_2 : g_okc cX4_goNearer gi_96_2 = true := by decide +kernel
def gi_96_3 : List (Nat × Instr × Nat) := [(98, .if_icmp .ne 18, 3), (101, .aload_n 1, 1), (102, .iconst 1, 1), (103, .putfield 133, 3), (106, .aload_n 0, 1), (107, .dup, 1), (108, .getfield 63, 3), (111, .iconst 1, 1), (112, .iadd, 1), (113, .putfield 63, 3), (116, .return_, 1)]
set_option maxRecDepth 100000 in
theorem gv_96_3 : g_okc cX4_goNearer gi_96_3 = true := by decide +kernel
def gi_96 : List (List (Nat × Instr × Nat)) := [gi_96_0, gi_96_1, gi_96_2, gi_96_3]
theorem gv_96 : ∀ ch ∈ gi_96, g_okc cX4_goNearer ch = true := List.forall_mem_cons.mpr ⟨gv_96_0, List.forall_mem_cons.mpr ⟨gv_96_1, List.forall_mem_cons.mpr ⟨gv_96_2, List.forall_mem_cons.mpr ⟨gv_96_3, fun _ h => absurd h List.not_mem_nil⟩⟩⟩⟩
def gi_97_0 : List (Nat × Instr × Nat) := [(0, .aload_n 0, 1), (1, .dup, 1), (2, .getfield 60, 3), (5, .iconst 1, 1), (6, .iadd, 1), (7, .putfield 60, 3), (10, .aload_n 0, 1), (11, .aload_n 0, 1), (12, .getfield 9, 3), (15, .putfield 50, 3), (18, .iconst 0, 1), (19, .istore_n 2, 1), (20, .iload_n 2, 1), (21, .aload_n 1, 1), (22, .getfield 126, 3), (25, .if_icmp .ge 70, 3), (28, .aload_n 0, 1), (29, .getfield 56, 3)]
set_option maxRecDepth 100000 in
theorem gv_97_0 : g_okc cX4_playMoves gi_97_0 = true := by decide +kernel
def gi_97_1 : List (Nat × Instr × Nat) := [(32, .ifCond .ne 63, 3), (35, .aload_n 1, 1), (36, .getfield 129, 3), (39, .iload_n 2, 1), (40, .aaload, 1), (41, .astore_n 3, 1), (42, .aload_n 3, 1), (43, .getfield 133, 3), (46, .ifCond .ne 43, 3), (49, .aload_n 3, 1), (50, .getfield 138, 3), (53, .aload_n 0, 1), (54, .getfield 60, 3), (57, .iconst 1, 1), (58, .isub, 1), (59, .if_icmp .gt 30, 3), (62, .aload_n 0, 1), (63, .aload_n 3, 1)]
set_option maxRecDepth 100000 in
theorem gv_97_1 : g_okc cX4_playMoves gi_97_1 = true := by decide +kernel
def gi_97_2 : List (Nat × Instr × Nat) := [(64, .getfield 141, 3), (67, .invokevirtual 144, 3), (70, .astore 4, 2), (72, .aload_n 0, 1), (73, .aload_n 3, 1), (74, .aload 4, 2), (76, .invokevirtual 148, 3), (79, .ifCond .eq 10, 3), (82, .aload_n 0, 1), (83, .aload_n 3, 1), (84, .aload 4, 2), (86, .invokevirtual 152, 3), (89, .iinc 2 1, 3), (92, .goto (-72), 3), (95, .return_, 1)]
set_option maxRecDepth 100000 in
theorem gv_97_2 : g_okc cX4_playMoves gi_97_2 = true := by decide +kernel
def gi_97 : List (List (Nat × Instr × Nat)) := [gi_97_0, gi_97_1, gi_97_2]
theorem gv_97 : ∀ ch ∈ gi_97, g_okc cX4_playMoves ch = true := List.forall_mem_cons.mpr ⟨gv_97_0, List.forall_mem_cons.mpr ⟨gv_97_1, List.forall_mem_cons.mpr ⟨gv_97_2, fun _ h => absurd h List.not_mem_nil⟩⟩⟩
def gi_98_0 : List (Nat × Instr × Nat) := [(0, .aload_n 1, 1), (1, .getfield 107, 3), (4, .iload_n 2, 1), (5, .if_icmp .ge 12, 3), (8, .iload_n 2, 1), (9, .aload_n 1, 1), (10, .getfield 107, 3), (13, .isub, 1), (14, .goto 9, 3), (17, .aload_n 1, 1), (18, .getfield 107, 3), (21, .iload_n 2, 1), (22, .isub, 1), (23, .istore_n 3, 1), (24, .aload_n 1, 1), (25, .getfield 107, 3), (28, .ifCond .eq 12, 3), (31, .aload_n 1, 1)]
set_option maxRecDepth 100000 in
theorem gv_98_0 : g_okc cX4_judgeRun gi_98_0 = true := by decide +kernel
def gi_98_1 : List (Nat × Instr × Nat) := [(32, .getfield 107, 3), (35, .bipush 120, 2), (37, .if_icmp .ne 18, 3), (40, .iload_n 3, 1), (41, .iconst 4, 1), (42, .if_icmp .lt 13, 3), (45, .aload_n 0, 1), (46, .dup, 1), (47, .getfield 75, 3), (50, .iconst 1, 1), (51, .iadd, 1), (52, .putfield 75, 3), (55, .aload_n 1, 1), (56, .getfield 107, 3), (59, .iload_n 2, 1), (60, .if_icmp .ge 29, 3), (63, .aload_n 1, 1)]
set_option maxRecDepth 100000 in
theorem gv_98_1 : g_okc cX4_judgeRun gi_98_1 = true := by decide +kernel
def gi_98_2 : List (Nat × Instr × Nat) := [(64, .getfield 107, 3), (67, .bipush 20, 2), (69, .if_icmp .gt 20, 3), (72, .aload_n 1, 1), (73, .getfield 162, 3), (76, .ifCond .eq 13, 3), (79, .aload_n 0, 1), (80, .dup, 1), (81, .getfield 78, 3), (84, .iconst 1, 1), (85, .iadd, 1), (86, .putfield 78, 3), (89, .return_, 1)]
set_option maxRecDepth 100000 in
theorem gv_98_2 : g_okc cX4_judgeRun gi_98_2 = true := by decide +kernel
def gi_98 : List (List (Nat × Instr × Nat)) := [gi_98_0, gi_98_1, gi_98_2]
theorem gv_98 : ∀ ch ∈ gi_98, g_okc cX4_judgeRun ch = true := List.forall_mem_cons.mpr ⟨gv_98_0, List.forall_mem_cons.mpr ⟨gv_98_1, List.forall_mem_cons.mpr ⟨gv_98_2, fun _ h => absurd h List.not_mem_nil⟩⟩⟩
def gi_99_0 : List (Nat × Instr × Nat) := [(0, .bipush 8, 2), (2, .aload_n 1, 1), (3, .invokevirtual 156, 3), (6, .bipush 9, 2), (8, .iadd, 1), (9, .bipush 10, 2), (11, .idiv, 1), (12, .invokestatic 175, 3), (15, .istore_n 2, 1), (16, .aload_n 1, 1), (17, .invokevirtual 198, 3), (20, .ifCond .le 7, 3), (23, .iconst (-1), 1), (24, .goto 4, 3), (27, .iconst 1, 1), (28, .istore_n 3, 1), (29, .aload_n 1, 1), (30, .getfield 107, 3)]
set_option maxRecDepth 100000 in
theorem gv_99_0 : g_okc cX4_runAway gi_99_0 = true := by decide +kernel
def gi_99_1 : List (Nat × Instr × Nat) := [(33, .istore 4, 2), (35, .iconst 0, 1), (36, .istore 5, 2), (38, .iload 5, 2), (40, .iload_n 2, 1), (41, .if_icmp .ge 48, 3), (44, .aload_n 1, 1), (45, .getfield 107, 3), (48, .iload_n 3, 1), (49, .iadd, 1), (50, .istore 6, 2), (52, .iload 6, 2), (54, .ifCond .lt 35, 3), (57, .iload 6, 2), (59, .bipush 120, 2), (61, .if_icmp .gt 28, 3)]
set_option maxRecDepth 100000 in
theorem gv_99_1 : g_okc cX4_runAway gi_99_1 = true := by decide +kernel
def gi_99_2 : List (Nat × Instr × Nat) := [(64, .aload_n 0, 1), (65, .aload_n 1, 1), (66, .iload 6, 2), (68, .invokevirtual 184, 3), (71, .ifCond .eq 6, 3), (74, .goto 15, 3), (77, .aload_n 1, 1), (78, .iload 6, 2), (80, .invokevirtual 191, 3), (83, .iinc 5 1, 3), (86, .goto (-48), 3), (89, .aload_n 0, 1), (90, .aload_n 1, 1), (91, .iload 4, 2), (93, .invokevirtual 201, 3)]
set_option maxRecDepth 100000 in
theorem gv_99_2 : g_okc cX4_runAway gi_99_2 = true := by decide +kernel
def gi_99_3 : List (Nat × Instr × Nat) := [(96, .return_, 1)]
set_option maxRecDepth 100000 in
theorem gv_99_3 : g_okc cX4_runAway gi_99_3 = true := by decide +kernel
def gi_99 : List (List (Nat × Instr × Nat)) := [gi_99_0, gi_99_1, gi_99_2, gi_99_3]
theorem gv_99 : ∀ ch ∈ gi_99, g_okc cX4_runAway ch = true := List.forall_mem_cons.mpr ⟨gv_99_0, List.forall_mem_cons.mpr ⟨gv_99_1, List.forall_mem_cons.mpr ⟨gv_99_2, List.forall_mem_cons.mpr ⟨gv_99_3, fun _ h => absurd h List.not_mem_nil⟩⟩⟩⟩
def gi_100_0 : List (Nat × Instr × Nat) := [(0, .aload_n 0, 1), (1, .dup, 1), (2, .getfield 66, 3), (5, .iconst 1, 1), (6, .iadd, 1), (7, .putfield 66, 3), (10, .aload_n 0, 1), (11, .invokevirtual 205, 3), (14, .iload_n 1, 1), (15, .iconst (-1), 1), (16, .if_icmp .eq 16, 3), (19, .iload_n 1, 1), (20, .aload_n 0, 1), (21, .getfield 44, 3), (24, .if_icmp .ge 8, 3), (27, .aload_n 0, 1), (28, .iload_n 1, 1), (29, .invokevirtual 208, 3)]
set_option maxRecDepth 100000 in
theorem gv_100_0 : g_okc cX4_finish gi_100_0 = true := by decide +kernel
def gi_100_1 : List (Nat × Instr × Nat) := [(32, .return_, 1)]
set_option maxRecDepth 100000 in
theorem gv_100_1 : g_okc cX4_finish gi_100_1 = true := by decide +kernel
def gi_100 : List (List (Nat × Instr × Nat)) := [gi_100_0, gi_100_1]
theorem gv_100 : ∀ ch ∈ gi_100, g_okc cX4_finish ch = true := List.forall_mem_cons.mpr ⟨gv_100_0, List.forall_mem_cons.mpr ⟨gv_100_1, fun _ h => absurd h List.not_mem_nil⟩⟩
def gi_101_0 : List (Nat × Instr × Nat) := [(0, .aload_n 0, 1), (1, .dup, 1), (2, .getfield 53, 3), (5, .iconst 1, 1), (6, .iadd, 1), (7, .putfield 53, 3), (10, .iconst 0, 1), (11, .istore_n 1, 1), (12, .iload_n 1, 1), (13, .aload_n 0, 1), (14, .getfield 37, 3), (17, .if_icmp .ge 27, 3), (20, .aload_n 0, 1), (21, .getfield 23, 3), (24, .iload_n 1, 1), (25, .aaload, 1), (26, .aload_n 0, 1), (27, .getfield 23, 3), (30, .iload_n 1, 1), (31, .aaload, 1)]
set_option maxRecDepth 100000 in
theorem gv_101_0 : g_okc cX4_playSecond gi_101_0 = true := by decide +kernel
def gi_101_1 : List (Nat × Instr × Nat) := [(32, .getfield 107, 3), (35, .putfield 110, 3), (38, .iinc 1 1, 3), (41, .goto (-29), 3), (44, .aload_n 0, 1), (45, .getfield 15, 3), (48, .iconst (-1), 1), (49, .if_icmp .eq 22, 3), (52, .aload_n 0, 1), (53, .getfield 56, 3), (56, .ifCond .ne 15, 3), (59, .aload_n 0, 1), (60, .aload_n 0, 1), (61, .aload_n 0, 1), (62, .getfield 15, 3)]
set_option maxRecDepth 100000 in
theorem gv_101_1 : g_okc cX4_playSecond gi_101_1 = true := by decide +kernel
def gi_101_2 : List (Nat × Instr × Nat) := [(65, .invokevirtual 96, 3), (68, .invokevirtual 113, 3), (71, .iconst 0, 1), (72, .istore_n 1, 1), (73, .iload_n 1, 1), (74, .aload_n 0, 1), (75, .getfield 37, 3), (78, .if_icmp .ge 52, 3), (81, .aload_n 0, 1), (82, .getfield 23, 3), (85, .iload_n 1, 1), (86, .aaload, 1), (87, .getfield 93, 3), (90, .ifCond .eq 34, 3), (93, .aload_n 0, 1), (94, .getfield 23, 3)]
set_option maxRecDepth 100000 in
theorem gv_101_2 : g_okc cX4_playSecond gi_101_2 = true := by decide +kernel
def gi_101_3 : List (Nat × Instr × Nat) := [(97, .iload_n 1, 1), (98, .aaload, 1), (99, .getfield 107, 3), (102, .aload_n 0, 1), (103, .getfield 23, 3), (106, .iload_n 1, 1), (107, .aaload, 1), (108, .getfield 110, 3), (111, .if_icmp .ne 13, 3), (114, .aload_n 0, 1), (115, .aload_n 0, 1), (116, .getfield 23, 3), (119, .iload_n 1, 1), (120, .aaload, 1), (121, .invokevirtual 116, 3), (124, .iinc 1 1, 3), (127, .goto (-54), 3)]
set_option maxRecDepth 100000 in
theorem gv_101_3 : g_okc cX4_playSecond gi_101_3 = true := by decide +kernel
def gi_101_4 : List (Nat × Instr × Nat) := [(130, .aload_n 0, 1), (131, .getfield 15, 3), (134, .iconst (-1), 1), (135, .if_icmp .eq 25, 3), (138, .aload_n 0, 1), (139, .invokevirtual 119, 3), (142, .ifCond .ne 18, 3), (145, .aload_n 0, 1), (146, .aload_n 0, 1), (147, .aload_n 0, 1), (148, .getfield 15, 3), (151, .invokevirtual 96, 3), (154, .getfield 120, 3), (157, .invokevirtual 123, 3)]
set_option maxRecDepth 100000 in
theorem gv_101_4 : g_okc cX4_playSecond gi_101_4 = true := by decide +kernel
def gi_101_5 : List (Nat × Instr × Nat) := [(160, .return_, 1)]
set_option maxRecDepth 100000 in
theorem gv_101_5 : g_okc cX4_playSecond gi_101_5 = true := by decide +kernel
def gi_101 : List (List (Nat × Instr × Nat)) := [gi_101_0, gi_101_1, gi_101_2, gi_101_3, gi_101_4, gi_101_5]
theorem gv_101 : ∀ ch ∈ gi_101, g_okc cX4_playSecond ch = true := List.forall_mem_cons.mpr ⟨gv_101_0, List.forall_mem_cons.mpr ⟨gv_101_1, List.forall_mem_cons.mpr ⟨gv_101_2, List.forall_mem_cons.mpr ⟨gv_101_3, List.forall_mem_cons.mpr ⟨gv_101_4, List.forall_mem_cons.mpr ⟨gv_101_5, fun _ h => absurd h List.not_mem_nil⟩⟩⟩⟩⟩⟩
def gi_102_0 : List (Nat × Instr × Nat) := [(0, .iload_n 1, 1), (1, .iconst 1, 1), (2, .if_icmp .lt 9, 3), (5, .iload_n 1, 1), (6, .bipush 120, 2), (8, .if_icmp .le 13, 3), (11, .new 30, 3), (14, .dup, 1), (15, .ldc 210, 2), (17, .invokespecial 34, 3), (20, .athrow, 1), (21, .aload_n 0, 1), (22, .getfield 10, 3), (25, .getfield 212, 3), (28, .iload_n 1, 1), (29, .iadd, 1), (30, .sipush 3000, 3)]
set_option maxRecDepth 100000 in
theorem gv_102_0 : g_okc cX5_pass gi_102_0 = true := by decide +kernel
def gi_102_1 : List (Nat × Instr × Nat) := [(33, .if_icmp .le 13, 3), (36, .new 41, 3), (39, .dup, 1), (40, .ldc 215, 2), (42, .invokespecial 45, 3), (45, .athrow, 1), (46, .aload_n 0, 1), (47, .getfield 10, 3), (50, .getfield 217, 3), (53, .istore_n 2, 1), (54, .iconst 0, 1), (55, .istore_n 3, 1), (56, .iload_n 3, 1), (57, .iload_n 1, 1), (58, .if_icmp .ge 16, 3), (61, .aload_n 0, 1), (62, .getfield 10, 3)]
set_option maxRecDepth 100000 in
theorem gv_102_1 : g_okc cX5_pass gi_102_1 = true := by decide +kernel
def gi_102_2 : List (Nat × Instr × Nat) := [(65, .invokevirtual 220, 3), (68, .iinc 3 1, 3), (71, .goto (-15), 3), (74, .aload_n 0, 1), (75, .getfield 10, 3), (78, .getfield 217, 3), (81, .iload_n 2, 1), (82, .isub, 1), (83, .ireturn, 1)]
set_option maxRecDepth 100000 in
theorem gv_102_2 : g_okc cX5_pass gi_102_2 = true := by decide +kernel
def gi_102 : List (List (Nat × Instr × Nat)) := [gi_102_0, gi_102_1, gi_102_2]
theorem gv_102 : ∀ ch ∈ gi_102, g_okc cX5_pass ch = true := List.forall_mem_cons.mpr ⟨gv_102_0, List.forall_mem_cons.mpr ⟨gv_102_1, List.forall_mem_cons.mpr ⟨gv_102_2, fun _ h => absurd h List.not_mem_nil⟩⟩⟩
def gi_103_0 : List (Nat × Instr × Nat) := [(0, .aload_n 2, 1), (1, .iconst 0, 1), (2, .aload_n 0, 1), (3, .iload_n 1, 1), (4, .invokevirtual 63, 3), (7, .i2l, 1), (8, .lastore, 1), (9, .goto 9, 3), (12, .astore_n 3, 1), (13, .iconst 1, 1), (14, .ireturn, 1), (15, .astore_n 3, 1), (16, .iconst 2, 1), (17, .ireturn, 1), (18, .iconst 0, 1), (19, .ireturn, 1)]
set_option maxRecDepth 100000 in
theorem gv_103_0 : g_okc cL_pass gi_103_0 = true := by decide +kernel
def gi_103 : List (List (Nat × Instr × Nat)) := [gi_103_0]
theorem gv_103 : ∀ ch ∈ gi_103, g_okc cL_pass ch = true := List.forall_mem_cons.mpr ⟨gv_103_0, fun _ h => absurd h List.not_mem_nil⟩
def gi_104_0 : List (Nat × Instr × Nat) := [(0, .aload_n 0, 1), (1, .getfield 12, 3), (4, .iload_n 1, 1), (5, .invokevirtual 71, 3), (8, .checkcast 50, 3), (11, .astore 4, 2), (13, .aload_n 0, 1), (14, .getfield 12, 3), (17, .iload_n 3, 1), (18, .invokevirtual 71, 3), (21, .checkcast 50, 3), (24, .astore 5, 2), (26, .iload_n 1, 1), (27, .iload_n 3, 1), (28, .if_icmp .eq 23, 3), (31, .iload_n 1, 1)]
set_option maxRecDepth 100000 in
theorem gv_104_0 : g_okc cX6_touches gi_104_0 = true := by decide +kernel
def gi_104_1 : List (Nat × Instr × Nat) := [(32, .iload_n 3, 1), (33, .isub, 1), (34, .invokestatic 75, 3), (37, .aload 4, 2), (39, .bipush 10, 2), (41, .iaload, 1), (42, .aload 5, 2), (44, .bipush 10, 2), (46, .iaload, 1), (47, .iadd, 1), (48, .if_icmp .le 5, 3), (51, .iconst 0, 1), (52, .ireturn, 1), (53, .iload_n 2, 1), (54, .aload 4, 2), (56, .bipush 9, 2), (58, .iaload, 1), (59, .isub, 1), (60, .aload 5, 2), (62, .iconst 2, 1), (63, .iaload, 1)]
set_option maxRecDepth 100000 in
theorem gv_104_1 : g_okc cX6_touches gi_104_1 = true := by decide +kernel
def gi_104_2 : List (Nat × Instr × Nat) := [(64, .if_icmp .gt 21, 3), (67, .aload 5, 2), (69, .iconst 2, 1), (70, .iaload, 1), (71, .aload 5, 2), (73, .bipush 9, 2), (75, .iaload, 1), (76, .isub, 1), (77, .iload_n 2, 1), (78, .if_icmp .gt 7, 3), (81, .iconst 1, 1), (82, .goto 4, 3), (85, .iconst 0, 1), (86, .ireturn, 1)]
set_option maxRecDepth 100000 in
theorem gv_104_2 : g_okc cX6_touches gi_104_2 = true := by decide +kernel
def gi_104 : List (List (Nat × Instr × Nat)) := [gi_104_0, gi_104_1, gi_104_2]
theorem gv_104 : ∀ ch ∈ gi_104, g_okc cX6_touches ch = true := List.forall_mem_cons.mpr ⟨gv_104_0, List.forall_mem_cons.mpr ⟨gv_104_1, List.forall_mem_cons.mpr ⟨gv_104_2, fun _ h => absurd h List.not_mem_nil⟩⟩⟩
def gi_105_0 : List (Nat × Instr × Nat) := [(0, .iconst 0, 1), (1, .istore_n 3, 1), (2, .iload_n 3, 1), (3, .aload_n 0, 1), (4, .getfield 12, 3), (7, .invokevirtual 81, 3), (10, .if_icmp .ge 43, 3), (13, .aload_n 0, 1), (14, .iload_n 1, 1), (15, .iload_n 2, 1), (16, .iload_n 3, 1), (17, .invokevirtual 85, 3), (20, .ifCond .eq 27, 3), (23, .aload_n 0, 1), (24, .iload_n 1, 1), (25, .aload_n 0, 1), (26, .getfield 12, 3), (29, .iload_n 1, 1), (30, .invokevirtual 71, 3)]
set_option maxRecDepth 100000 in
theorem gv_105_0 : g_okc cX6_isHeld gi_105_0 = true := by decide +kernel
def gi_105_1 : List (Nat × Instr × Nat) := [(33, .checkcast 50, 3), (36, .iconst 2, 1), (37, .iaload, 1), (38, .iload_n 3, 1), (39, .invokevirtual 85, 3), (42, .ifCond .ne 5, 3), (45, .iconst 1, 1), (46, .ireturn, 1), (47, .iinc 3 1, 3), (50, .goto (-48), 3), (53, .iconst 0, 1), (54, .ireturn, 1)]
set_option maxRecDepth 100000 in
theorem gv_105_1 : g_okc cX6_isHeld gi_105_1 = true := by decide +kernel
def gi_105 : List (List (Nat × Instr × Nat)) := [gi_105_0, gi_105_1]
theorem gv_105 : ∀ ch ∈ gi_105, g_okc cX6_isHeld ch = true := List.forall_mem_cons.mpr ⟨gv_105_0, List.forall_mem_cons.mpr ⟨gv_105_1, fun _ h => absurd h List.not_mem_nil⟩⟩
def gi_106_0 : List (Nat × Instr × Nat) := [(0, .aload_n 0, 1), (1, .getfield 12, 3), (4, .iload_n 1, 1), (5, .invokevirtual 71, 3), (8, .checkcast 50, 3), (11, .astore_n 3, 1), (12, .aload_n 3, 1), (13, .bipush 7, 2), (15, .dup2, 1), (16, .iaload, 1), (17, .iload_n 2, 1), (18, .aload_n 3, 1), (19, .iconst 2, 1), (20, .iaload, 1), (21, .isub, 1), (22, .invokestatic 75, 3), (25, .iadd, 1), (26, .iastore, 1), (27, .aload_n 3, 1), (28, .iconst 2, 1), (29, .iload_n 2, 1), (30, .iastore, 1), (31, .return_, 1)]
set_option maxRecDepth 100000 in
theorem gv_106_0 : g_okc cX6_put gi_106_0 = true := by decide +kernel
def gi_106 : List (List (Nat × Instr × Nat)) := [gi_106_0]
theorem gv_106 : ∀ ch ∈ gi_106, g_okc cX6_put ch = true := List.forall_mem_cons.mpr ⟨gv_106_0, fun _ h => absurd h List.not_mem_nil⟩
def gi_107_0 : List (Nat × Instr × Nat) := [(0, .aload_n 0, 1), (1, .getfield 12, 3), (4, .aload_n 1, 1), (5, .iconst 0, 1), (6, .iaload, 1), (7, .invokevirtual 71, 3), (10, .checkcast 50, 3), (13, .astore_n 2, 1), (14, .aload_n 1, 1), (15, .iconst 1, 1), (16, .iaload, 1), (17, .aload_n 2, 1), (18, .iconst 2, 1), (19, .iaload, 1), (20, .isub, 1), (21, .istore_n 3, 1), (22, .aload_n 2, 1), (23, .iconst 2, 1), (24, .iaload, 1), (25, .aload_n 1, 1), (26, .iconst 2, 1), (27, .iaload, 1), (28, .ineg, 1), (29, .aload_n 1, 1), (30, .iconst 2, 1), (31, .iaload, 1)]
set_option maxRecDepth 100000 in
theorem gv_107_0 : g_okc cX6_go gi_107_0 = true := by decide +kernel
def gi_107_1 : List (Nat × Instr × Nat) := [(32, .iload_n 3, 1), (33, .invokestatic 124, 3), (36, .invokestatic 128, 3), (39, .iadd, 1), (40, .istore 4, 2), (42, .aload_n 0, 1), (43, .aload_n 1, 1), (44, .iconst 0, 1), (45, .iaload, 1), (46, .iload 4, 2), (48, .invokevirtual 131, 3), (51, .ifCond .eq 35, 3), (54, .aload_n 0, 1), (55, .iconst 1, 1), (56, .putfield 64, 3), (59, .aload_n 0, 1), (60, .dup, 1), (61, .getfield 135, 3)]
set_option maxRecDepth 100000 in
theorem gv_107_1 : g_okc cX6_go gi_107_1 = true := by decide +kernel
def gi_107_2 : List (Nat × Instr × Nat) := [(64, .iconst 1, 1), (65, .iadd, 1), (66, .putfield 135, 3), (69, .aload_n 0, 1), (70, .getfield 32, 3), (73, .iconst (-1), 1), (74, .if_icmp .ne 10, 3), (77, .aload_n 0, 1), (78, .aload_n 1, 1), (79, .iconst 0, 1), (80, .iaload, 1), (81, .putfield 32, 3), (84, .iconst 0, 1), (85, .ireturn, 1), (86, .aload_n 0, 1), (87, .aload_n 1, 1), (88, .iconst 0, 1), (89, .iaload, 1), (90, .iload 4, 2), (92, .invokevirtual 138, 3), (95, .iload 4, 2)]
set_option maxRecDepth 100000 in
theorem gv_107_2 : g_okc cX6_go gi_107_2 = true := by decide +kernel
def gi_107_3 : List (Nat × Instr × Nat) := [(97, .aload_n 1, 1), (98, .iconst 1, 1), (99, .iaload, 1), (100, .if_icmp .eq 5, 3), (103, .iconst 0, 1), (104, .ireturn, 1), (105, .aload_n 1, 1), (106, .iconst 4, 1), (107, .iconst 1, 1), (108, .iastore, 1), (109, .iconst 1, 1), (110, .ireturn, 1)]
set_option maxRecDepth 100000 in
theorem gv_107_3 : g_okc cX6_go gi_107_3 = true := by decide +kernel
def gi_107 : List (List (Nat × Instr × Nat)) := [gi_107_0, gi_107_1, gi_107_2, gi_107_3]
theorem gv_107 : ∀ ch ∈ gi_107, g_okc cX6_go ch = true := List.forall_mem_cons.mpr ⟨gv_107_0, List.forall_mem_cons.mpr ⟨gv_107_1, List.forall_mem_cons.mpr ⟨gv_107_2, List.forall_mem_cons.mpr ⟨gv_107_3, fun _ h => absurd h List.not_mem_nil⟩⟩⟩⟩
def gi_108_0 : List (Nat × Instr × Nat) := [(0, .iconst 0, 1), (1, .istore_n 1, 1), (2, .iconst 0, 1), (3, .istore_n 2, 1), (4, .aload_n 0, 1), (5, .dup, 1), (6, .getfield 68, 3), (9, .iconst 1, 1), (10, .iadd, 1), (11, .putfield 68, 3), (14, .aload_n 0, 1), (15, .getfield 18, 3), (18, .aload_n 0, 1), (19, .getfield 29, 3), (22, .invokevirtual 71, 3), (25, .checkcast 9, 3), (28, .invokevirtual 36, 3), (31, .astore_n 3, 1)]
set_option maxRecDepth 100000 in
theorem gv_108_0 : g_okc cX6_act gi_108_0 = true := by decide +kernel
def gi_108_1 : List (Nat × Instr × Nat) := [(32, .aload_n 3, 1), (33, .invokeinterface 40 1, 5), (38, .ifCond .eq 179, 3), (41, .aload_n 3, 1), (42, .invokeinterface 46 1, 5), (47, .checkcast 50, 3), (50, .astore 4, 2), (52, .aload 4, 2), (54, .iconst 4, 1), (55, .iaload, 1), (56, .ifCond .ne (-24), 3), (59, .aload 4, 2), (61, .iconst 3, 1), (62, .iaload, 1), (63, .aload_n 0, 1)]
set_option maxRecDepth 100000 in
theorem gv_108_1 : g_okc cX6_act gi_108_1 = true := by decide +kernel
def gi_108_2 : List (Nat × Instr × Nat) := [(64, .getfield 68, 3), (67, .iconst 1, 1), (68, .isub, 1), (69, .if_icmp .gt (-37), 3), (72, .aload_n 0, 1), (73, .getfield 64, 3), (76, .ifCond .eq 6, 3), (79, .goto (-47), 3), (82, .aload_n 0, 1), (83, .getfield 12, 3), (86, .aload 4, 2), (88, .iconst 0, 1), (89, .iaload, 1), (90, .invokevirtual 71, 3), (93, .checkcast 50, 3)]
set_option maxRecDepth 100000 in
theorem gv_108_2 : g_okc cX6_act gi_108_2 = true := by decide +kernel
def gi_108_3 : List (Nat × Instr × Nat) := [(96, .astore 5, 2), (98, .aload 5, 2), (100, .iconst 0, 1), (101, .iaload, 1), (102, .ifCond .ne 7, 3), (105, .iconst 1, 1), (106, .goto 4, 3), (109, .iconst 0, 1), (110, .istore 6, 2), (112, .aload 5, 2), (114, .invokestatic 111, 3), (117, .invokestatic 75, 3), (120, .bipush 10, 2), (122, .if_icmp .le 21, 3), (125, .aload 4, 2), (127, .iconst 4, 1)]
set_option maxRecDepth 100000 in
theorem gv_108_3 : g_okc cX6_act gi_108_3 = true := by decide +kernel
def gi_108_4 : List (Nat × Instr × Nat) := [(128, .iconst 2, 1), (129, .iastore, 1), (130, .aload_n 0, 1), (131, .dup, 1), (132, .getfield 115, 3), (135, .iconst 1, 1), (136, .iadd, 1), (137, .putfield 115, 3), (140, .goto 74, 3), (143, .iload 6, 2), (145, .ifCond .eq 11, 3), (148, .iload_n 2, 1), (149, .aload_n 0, 1), (150, .getfield 25, 3), (153, .if_icmp .eq 18, 3), (156, .aload 5, 2), (158, .iconst 4, 1), (159, .iaload, 1)]
set_option maxRecDepth 100000 in
theorem gv_108_4 : g_okc cX6_act gi_108_4 = true := by decide +kernel
def gi_108_5 : List (Nat × Instr × Nat) := [(160, .iconst 1, 1), (161, .if_icmp .ne 31, 3), (164, .aload 5, 2), (166, .iconst 5, 1), (167, .iaload, 1), (168, .ifCond .ne 24, 3), (171, .aload 4, 2), (173, .iconst 5, 1), (174, .dup2, 1), (175, .iaload, 1), (176, .iconst 1, 1), (177, .iadd, 1), (178, .iastore, 1), (179, .aload_n 0, 1), (180, .dup, 1), (181, .getfield 118, 3), (184, .iconst 1, 1), (185, .iadd, 1), (186, .putfield 118, 3), (189, .goto 25, 3)]
set_option maxRecDepth 100000 in
theorem gv_108_5 : g_okc cX6_act gi_108_5 = true := by decide +kernel
def gi_108_6 : List (Nat × Instr × Nat) := [(192, .iload_n 2, 1), (193, .iload 6, 2), (195, .ifCond .eq 7, 3), (198, .iconst 1, 1), (199, .goto 4, 3), (202, .iconst 0, 1), (203, .iadd, 1), (204, .istore_n 2, 1), (205, .iload_n 1, 1), (206, .aload_n 0, 1), (207, .aload 4, 2), (209, .invokevirtual 121, 3), (212, .iadd, 1), (213, .istore_n 1, 1), (214, .goto (-182), 3), (217, .iload_n 1, 1), (218, .ireturn, 1)]
set_option maxRecDepth 100000 in
theorem gv_108_6 : g_okc cX6_act gi_108_6 = true := by decide +kernel
def gi_108 : List (List (Nat × Instr × Nat)) := [gi_108_0, gi_108_1, gi_108_2, gi_108_3, gi_108_4, gi_108_5, gi_108_6]
theorem gv_108 : ∀ ch ∈ gi_108, g_okc cX6_act ch = true := List.forall_mem_cons.mpr ⟨gv_108_0, List.forall_mem_cons.mpr ⟨gv_108_1, List.forall_mem_cons.mpr ⟨gv_108_2, List.forall_mem_cons.mpr ⟨gv_108_3, List.forall_mem_cons.mpr ⟨gv_108_4, List.forall_mem_cons.mpr ⟨gv_108_5, List.forall_mem_cons.mpr ⟨gv_108_6, fun _ h => absurd h List.not_mem_nil⟩⟩⟩⟩⟩⟩⟩
def gi_109_0 : List (Nat × Instr × Nat) := [(0, .aload_n 0, 1), (1, .getfield 12, 3), (4, .iload_n 1, 1), (5, .invokevirtual 71, 3), (8, .checkcast 50, 3), (11, .astore_n 2, 1), (12, .aload_n 2, 1), (13, .invokestatic 111, 3), (16, .istore_n 3, 1), (17, .bipush 8, 2), (19, .iload_n 3, 1), (20, .invokestatic 75, 3), (23, .bipush 9, 2), (25, .iadd, 1), (26, .bipush 10, 2), (28, .idiv, 1), (29, .invokestatic 124, 3)]
set_option maxRecDepth 100000 in
theorem gv_109_0 : g_okc cX6_runAway gi_109_0 = true := by decide +kernel
def gi_109_1 : List (Nat × Instr × Nat) := [(32, .istore 4, 2), (34, .iload_n 3, 1), (35, .ifCond .le 7, 3), (38, .iconst (-1), 1), (39, .goto 4, 3), (42, .iconst 1, 1), (43, .istore 5, 2), (45, .iconst 0, 1), (46, .istore 6, 2), (48, .iload 4, 2), (50, .ifCond .le 51, 3), (53, .aload_n 2, 1), (54, .iconst 2, 1), (55, .iaload, 1), (56, .iload 5, 2), (58, .iadd, 1), (59, .istore 7, 2), (61, .iload 7, 2), (63, .iconst 0, 1)]
set_option maxRecDepth 100000 in
theorem gv_109_1 : g_okc cX6_runAway gi_109_1 = true := by decide +kernel
def gi_109_2 : List (Nat × Instr × Nat) := [(64, .bipush 120, 2), (66, .invokestatic 142, 3), (69, .ifCond .eq 32, 3), (72, .aload_n 0, 1), (73, .iload_n 1, 1), (74, .iload 7, 2), (76, .invokevirtual 131, 3), (79, .ifCond .eq 6, 3), (82, .goto 19, 3), (85, .aload_n 0, 1), (86, .iload_n 1, 1), (87, .iload 7, 2), (89, .invokevirtual 138, 3), (92, .iinc 6 1, 3), (95, .iinc 4 (-1), 3)]
set_option maxRecDepth 100000 in
theorem gv_109_2 : g_okc cX6_runAway gi_109_2 = true := by decide +kernel
def gi_109_3 : List (Nat × Instr × Nat) := [(98, .goto (-50), 3), (101, .iload 6, 2), (103, .iconst 4, 1), (104, .if_icmp .lt 27, 3), (107, .aload_n 2, 1), (108, .iconst 2, 1), (109, .iaload, 1), (110, .ifCond .eq 11, 3), (113, .aload_n 2, 1), (114, .iconst 2, 1), (115, .iaload, 1), (116, .bipush 120, 2), (118, .if_icmp .ne 13, 3), (121, .aload_n 0, 1), (122, .dup, 1), (123, .getfield 145, 3), (126, .iconst 1, 1), (127, .iadd, 1)]
set_option maxRecDepth 100000 in
theorem gv_109_3 : g_okc cX6_runAway gi_109_3 = true := by decide +kernel
def gi_109_4 : List (Nat × Instr × Nat) := [(128, .putfield 145, 3), (131, .iload 6, 2), (133, .ifCond .le 33, 3), (136, .iload 5, 2), (138, .ifCond .ge 28, 3), (141, .aload_n 2, 1), (142, .iconst 2, 1), (143, .iaload, 1), (144, .bipush 20, 2), (146, .if_icmp .gt 20, 3), (149, .aload_n 2, 1), (150, .iconst 4, 1), (151, .iaload, 1), (152, .iconst 1, 1), (153, .if_icmp .ne 13, 3), (156, .aload_n 0, 1), (157, .dup, 1), (158, .getfield 148, 3)]
set_option maxRecDepth 100000 in
theorem gv_109_4 : g_okc cX6_runAway gi_109_4 = true := by decide +kernel
def gi_109_5 : List (Nat × Instr × Nat) := [(161, .iconst 1, 1), (162, .iadd, 1), (163, .putfield 148, 3), (166, .return_, 1)]
set_option maxRecDepth 100000 in
theorem gv_109_5 : g_okc cX6_runAway gi_109_5 = true := by decide +kernel
def gi_109 : List (List (Nat × Instr × Nat)) := [gi_109_0, gi_109_1, gi_109_2, gi_109_3, gi_109_4, gi_109_5]
theorem gv_109 : ∀ ch ∈ gi_109, g_okc cX6_runAway ch = true := List.forall_mem_cons.mpr ⟨gv_109_0, List.forall_mem_cons.mpr ⟨gv_109_1, List.forall_mem_cons.mpr ⟨gv_109_2, List.forall_mem_cons.mpr ⟨gv_109_3, List.forall_mem_cons.mpr ⟨gv_109_4, List.forall_mem_cons.mpr ⟨gv_109_5, fun _ h => absurd h List.not_mem_nil⟩⟩⟩⟩⟩⟩
end
section
def gi_110_0 : List (Nat × Instr × Nat) := [(0, .aload_n 0, 1), (1, .dup, 1), (2, .getfield 89, 3), (5, .iconst 1, 1), (6, .iadd, 1), (7, .putfield 89, 3), (10, .aload_n 0, 1), (11, .getfield 12, 3), (14, .invokevirtual 36, 3), (17, .astore_n 1, 1), (18, .aload_n 1, 1), (19, .invokeinterface 40 1, 5), (24, .ifCond .eq 23, 3), (27, .aload_n 1, 1), (28, .invokeinterface 46 1, 5)]
set_option maxRecDepth 100000 in
theorem gv_110_0 : g_okc cX6_pass gi_110_0 = true := by decide +kernel
def gi_110_1 : List (Nat × Instr × Nat) := [(33, .checkcast 50, 3), (36, .astore_n 2, 1), (37, .aload_n 2, 1), (38, .bipush 11, 2), (40, .aload_n 2, 1), (41, .iconst 2, 1), (42, .iaload, 1), (43, .iastore, 1), (44, .goto (-26), 3), (47, .iconst 0, 1), (48, .istore_n 1, 1), (49, .aload_n 0, 1), (50, .getfield 29, 3), (53, .iconst (-1), 1), (54, .if_icmp .eq 15, 3), (57, .aload_n 0, 1), (58, .getfield 64, 3), (61, .ifCond .ne 8, 3)]
set_option maxRecDepth 100000 in
theorem gv_110_1 : g_okc cX6_pass gi_110_1 = true := by decide +kernel
def gi_110_2 : List (Nat × Instr × Nat) := [(64, .aload_n 0, 1), (65, .invokevirtual 92, 3), (68, .istore_n 1, 1), (69, .iconst 0, 1), (70, .istore_n 2, 1), (71, .iload_n 2, 1), (72, .aload_n 0, 1), (73, .getfield 12, 3), (76, .invokevirtual 81, 3), (79, .if_icmp .ge 62, 3), (82, .aload_n 0, 1), (83, .getfield 12, 3), (86, .iload_n 2, 1), (87, .invokevirtual 71, 3), (90, .checkcast 50, 3), (93, .bipush 6, 2), (95, .iaload, 1)]
set_option maxRecDepth 100000 in
theorem gv_110_2 : g_okc cX6_pass gi_110_2 = true := by decide +kernel
def gi_110_3 : List (Nat × Instr × Nat) := [(96, .iconst 1, 1), (97, .if_icmp .ne 38, 3), (100, .aload_n 0, 1), (101, .getfield 12, 3), (104, .iload_n 2, 1), (105, .invokevirtual 71, 3), (108, .checkcast 50, 3), (111, .bipush 11, 2), (113, .iaload, 1), (114, .aload_n 0, 1), (115, .getfield 12, 3), (118, .iload_n 2, 1), (119, .invokevirtual 71, 3), (122, .checkcast 50, 3), (125, .iconst 2, 1), (126, .iaload, 1), (127, .if_icmp .ne 8, 3)]
set_option maxRecDepth 100000 in
theorem gv_110_3 : g_okc cX6_pass gi_110_3 = true := by decide +kernel
def gi_110_4 : List (Nat × Instr × Nat) := [(130, .aload_n 0, 1), (131, .iload_n 2, 1), (132, .invokevirtual 95, 3), (135, .iinc 2 1, 3), (138, .goto (-67), 3), (141, .aload_n 0, 1), (142, .getfield 29, 3), (145, .iconst (-1), 1), (146, .if_icmp .eq 10, 3), (149, .aload_n 0, 1), (150, .invokevirtual 99, 3), (153, .ifCond .le 5, 3), (156, .iload_n 1, 1), (157, .ireturn, 1), (158, .aload_n 0, 1), (159, .getfield 21, 3)]
set_option maxRecDepth 100000 in
theorem gv_110_4 : g_okc cX6_pass gi_110_4 = true := by decide +kernel
def gi_110_5 : List (Nat × Instr × Nat) := [(162, .aload_n 0, 1), (163, .getfield 29, 3), (166, .iaload, 1), (167, .istore_n 2, 1), (168, .aload_n 0, 1), (169, .dup, 1), (170, .getfield 102, 3), (173, .iconst 1, 1), (174, .iadd, 1), (175, .putfield 102, 3), (178, .aload_n 0, 1), (179, .invokevirtual 105, 3), (182, .iload_n 2, 1), (183, .iconst (-1), 1), (184, .if_icmp .eq 19, 3), (187, .iload_n 2, 1), (188, .aload_n 0, 1), (189, .getfield 18, 3)]
set_option maxRecDepth 100000 in
theorem gv_110_5 : g_okc cX6_pass gi_110_5 = true := by decide +kernel
def gi_110_6 : List (Nat × Instr × Nat) := [(192, .invokevirtual 81, 3), (195, .if_icmp .ge 8, 3), (198, .aload_n 0, 1), (199, .iload_n 2, 1), (200, .invokevirtual 108, 3), (203, .iload_n 1, 1), (204, .ireturn, 1)]
set_option maxRecDepth 100000 in
theorem gv_110_6 : g_okc cX6_pass gi_110_6 = true := by decide +kernel
def gi_110 : List (List (Nat × Instr × Nat)) := [gi_110_0, gi_110_1, gi_110_2, gi_110_3, gi_110_4, gi_110_5, gi_110_6]
theorem gv_110 : ∀ ch ∈ gi_110, g_okc cX6_pass ch = true := List.forall_mem_cons.mpr ⟨gv_110_0, List.forall_mem_cons.mpr ⟨gv_110_1, List.forall_mem_cons.mpr ⟨gv_110_2, List.forall_mem_cons.mpr ⟨gv_110_3, List.forall_mem_cons.mpr ⟨gv_110_4, List.forall_mem_cons.mpr ⟨gv_110_5, List.forall_mem_cons.mpr ⟨gv_110_6, fun _ h => absurd h List.not_mem_nil⟩⟩⟩⟩⟩⟩⟩
def gi_111_0 : List (Nat × Instr × Nat) := [(0, .aload_n 0, 1), (1, .iconst 0, 1), (2, .putfield 23, 3), (5, .iload_n 1, 1), (6, .iconst 1, 1), (7, .bipush 120, 2), (9, .invokestatic 34, 3), (12, .ifCond .ne 9, 3), (15, .aload_n 0, 1), (16, .iconst 1, 1), (17, .invokevirtual 41, 3), (20, .ireturn, 1), (21, .aload_n 0, 1), (22, .getfield 19, 3), (25, .getfield 118, 3), (28, .iload_n 1, 1), (29, .iadd, 1), (30, .sipush 3000, 3)]
set_option maxRecDepth 100000 in
theorem gv_111_0 : g_okc cX7_pass gi_111_0 = true := by decide +kernel
def gi_111_1 : List (Nat × Instr × Nat) := [(33, .if_icmp .le 9, 3), (36, .aload_n 0, 1), (37, .iconst 2, 1), (38, .invokevirtual 41, 3), (41, .ireturn, 1), (42, .iconst 0, 1), (43, .istore_n 2, 1), (44, .iconst 0, 1), (45, .istore_n 3, 1), (46, .iload_n 3, 1), (47, .iload_n 1, 1), (48, .if_icmp .ge 19, 3), (51, .iload_n 2, 1), (52, .aload_n 0, 1), (53, .getfield 19, 3), (56, .invokevirtual 121, 3), (59, .iadd, 1), (60, .istore_n 2, 1), (61, .iinc 3 1, 3)]
set_option maxRecDepth 100000 in
theorem gv_111_1 : g_okc cX7_pass gi_111_1 = true := by decide +kernel
def gi_111_2 : List (Nat × Instr × Nat) := [(64, .goto (-18), 3), (67, .iload_n 2, 1), (68, .ireturn, 1)]
set_option maxRecDepth 100000 in
theorem gv_111_2 : g_okc cX7_pass gi_111_2 = true := by decide +kernel
def gi_111 : List (List (Nat × Instr × Nat)) := [gi_111_0, gi_111_1, gi_111_2]
theorem gv_111 : ∀ ch ∈ gi_111, g_okc cX7_pass ch = true := List.forall_mem_cons.mpr ⟨gv_111_0, List.forall_mem_cons.mpr ⟨gv_111_1, List.forall_mem_cons.mpr ⟨gv_111_2, fun _ h => absurd h List.not_mem_nil⟩⟩⟩
def gi_112_0 : List (Nat × Instr × Nat) := [(0, .aload_n 0, 1), (1, .getfield 10, 3), (4, .iload_n 1, 1), (5, .invokevirtual 102, 3), (8, .astore_n 3, 1), (9, .iload_n 2, 1), (10, .tableswitch 154 0 11 #[62, 75, 80, 85, 90, 95, 100, 105, 110, 123, 136, 149], 62)]
set_option maxRecDepth 100000 in
theorem gv_112_0 : g_okc cX5_ofBar gi_112_0 = true := by decide +kernel
def gi_112_1 : List (Nat × Instr × Nat) := []
set_option maxRecDepth 100000 in
theorem gv_112_1 : g_okc cX5_ofBar gi_112_1 = true := by decide +kernel
def gi_112_2 : List (Nat × Instr × Nat) := [(72, .aload_n 3, 1), (73, .getfield 50, 3), (76, .ifCond .eq 7, 3), (79, .iconst 1, 1), (80, .goto 4, 3), (83, .iconst 0, 1), (84, .ireturn, 1), (85, .aload_n 3, 1), (86, .getfield 56, 3), (89, .ireturn, 1), (90, .aload_n 3, 1), (91, .getfield 223, 3), (94, .ireturn, 1), (95, .aload_n 3, 1)]
set_option maxRecDepth 100000 in
theorem gv_112_2 : g_okc cX5_ofBar gi_112_2 = true := by decide +kernel
def gi_112_3 : List (Nat × Instr × Nat) := [(96, .getfield 182, 3), (99, .ireturn, 1), (100, .aload_n 3, 1), (101, .getfield 168, 3), (104, .ireturn, 1), (105, .aload_n 3, 1), (106, .getfield 226, 3), (109, .ireturn, 1), (110, .aload_n 3, 1), (111, .getfield 229, 3), (114, .ireturn, 1), (115, .aload_n 3, 1), (116, .invokevirtual 185, 3), (119, .ireturn, 1), (120, .aload_n 3, 1), (121, .getfield 151, 3), (124, .ifCond .eq 7, 3), (127, .iconst 1, 1)]
set_option maxRecDepth 100000 in
theorem gv_112_3 : g_okc cX5_ofBar gi_112_3 = true := by decide +kernel
def gi_112_4 : List (Nat × Instr × Nat) := [(128, .goto 4, 3), (131, .iconst 0, 1), (132, .ireturn, 1), (133, .aload_n 3, 1), (134, .getfield 154, 3), (137, .ifCond .eq 7, 3), (140, .iconst 1, 1), (141, .goto 4, 3), (144, .iconst 0, 1), (145, .ireturn, 1), (146, .aload_n 3, 1), (147, .getfield 207, 3), (150, .ifCond .eq 7, 3), (153, .iconst 1, 1), (154, .goto 4, 3), (157, .iconst 0, 1), (158, .ireturn, 1), (159, .aload_n 3, 1)]
set_option maxRecDepth 100000 in
theorem gv_112_4 : g_okc cX5_ofBar gi_112_4 = true := by decide +kernel
def gi_112_5 : List (Nat × Instr × Nat) := [(160, .getfield 232, 3), (163, .ireturn, 1), (164, .new 30, 3), (167, .dup, 1), (168, .ldc 235, 2), (170, .invokespecial 34, 3), (173, .athrow, 1)]
set_option maxRecDepth 100000 in
theorem gv_112_5 : g_okc cX5_ofBar gi_112_5 = true := by decide +kernel
def gi_112 : List (List (Nat × Instr × Nat)) := [gi_112_0, gi_112_1, gi_112_2, gi_112_3, gi_112_4, gi_112_5]
theorem gv_112 : ∀ ch ∈ gi_112, g_okc cX5_ofBar ch = true := List.forall_mem_cons.mpr ⟨gv_112_0, List.forall_mem_cons.mpr ⟨gv_112_1, List.forall_mem_cons.mpr ⟨gv_112_2, List.forall_mem_cons.mpr ⟨gv_112_3, List.forall_mem_cons.mpr ⟨gv_112_4, List.forall_mem_cons.mpr ⟨gv_112_5, fun _ h => absurd h List.not_mem_nil⟩⟩⟩⟩⟩⟩
def gi_113_0 : List (Nat × Instr × Nat) := [(0, .aload_n 3, 1), (1, .iconst 0, 1), (2, .aload_n 0, 1), (3, .iload_n 1, 1), (4, .iload_n 2, 1), (5, .invokevirtual 66, 3), (8, .i2l, 1), (9, .lastore, 1), (10, .goto 11, 3), (13, .astore 4, 2), (15, .iconst 1, 1), (16, .ireturn, 1), (17, .astore 4, 2), (19, .iconst 2, 1), (20, .ireturn, 1), (21, .iconst 0, 1), (22, .ireturn, 1)]
set_option maxRecDepth 100000 in
theorem gv_113_0 : g_okc cL_ofBar gi_113_0 = true := by decide +kernel
def gi_113 : List (List (Nat × Instr × Nat)) := [gi_113_0]
theorem gv_113 : ∀ ch ∈ gi_113, g_okc cL_ofBar ch = true := List.forall_mem_cons.mpr ⟨gv_113_0, fun _ h => absurd h List.not_mem_nil⟩
def gi_114_0 : List (Nat × Instr × Nat) := [(0, .aload_n 0, 1), (1, .getfield 19, 3), (4, .getfield 27, 3), (7, .iload_n 1, 1), (8, .invokevirtual 60, 3), (11, .checkcast 81, 3), (14, .astore_n 3, 1), (15, .bipush 12, 2), (17, .newarray .int, 2), (19, .dup, 1), (20, .iconst 0, 1), (21, .aload_n 3, 1), (22, .iconst 0, 1), (23, .iaload, 1), (24, .iastore, 1), (25, .dup, 1), (26, .iconst 1, 1), (27, .aload_n 3, 1), (28, .iconst 1, 1), (29, .iaload, 1), (30, .iastore, 1), (31, .dup, 1)]
set_option maxRecDepth 100000 in
theorem gv_114_0 : g_okc cX7_ofBarNow gi_114_0 = true := by decide +kernel
def gi_114_1 : List (Nat × Instr × Nat) := [(32, .iconst 2, 1), (33, .aload_n 3, 1), (34, .iconst 2, 1), (35, .iaload, 1), (36, .iastore, 1), (37, .dup, 1), (38, .iconst 3, 1), (39, .aload_n 3, 1), (40, .iconst 3, 1), (41, .iaload, 1), (42, .iastore, 1), (43, .dup, 1), (44, .iconst 4, 1), (45, .aload_n 3, 1), (46, .bipush 8, 2), (48, .iaload, 1), (49, .iastore, 1), (50, .dup, 1), (51, .iconst 5, 1), (52, .aload_n 3, 1), (53, .bipush 9, 2), (55, .iaload, 1), (56, .iastore, 1), (57, .dup, 1), (58, .bipush 6, 2), (60, .aload_n 3, 1), (61, .bipush 10, 2), (63, .iaload, 1)]
set_option maxRecDepth 100000 in
theorem gv_114_1 : g_okc cX7_ofBarNow gi_114_1 = true := by decide +kernel
def gi_114_2 : List (Nat × Instr × Nat) := [(64, .iastore, 1), (65, .dup, 1), (66, .bipush 7, 2), (68, .aload_n 3, 1), (69, .invokestatic 101, 3), (72, .iastore, 1), (73, .dup, 1), (74, .bipush 8, 2), (76, .aload_n 3, 1), (77, .iconst 4, 1), (78, .iaload, 1), (79, .iastore, 1), (80, .dup, 1), (81, .bipush 9, 2), (83, .aload_n 3, 1), (84, .iconst 5, 1), (85, .iaload, 1), (86, .iastore, 1), (87, .dup, 1), (88, .bipush 10, 2), (90, .aload_n 3, 1), (91, .bipush 6, 2), (93, .iaload, 1), (94, .iastore, 1), (95, .dup, 1)]
set_option maxRecDepth 100000 in
theorem gv_114_2 : g_okc cX7_ofBarNow gi_114_2 = true := by decide +kernel
def gi_114_3 : List (Nat × Instr × Nat) := [(96, .bipush 11, 2), (98, .aload_n 3, 1), (99, .bipush 7, 2), (101, .iaload, 1), (102, .iastore, 1), (103, .astore 4, 2), (105, .aload 4, 2), (107, .iload_n 2, 1), (108, .iaload, 1), (109, .ireturn, 1)]
set_option maxRecDepth 100000 in
theorem gv_114_3 : g_okc cX7_ofBarNow gi_114_3 = true := by decide +kernel
def gi_114 : List (List (Nat × Instr × Nat)) := [gi_114_0, gi_114_1, gi_114_2, gi_114_3]
theorem gv_114 : ∀ ch ∈ gi_114, g_okc cX7_ofBarNow ch = true := List.forall_mem_cons.mpr ⟨gv_114_0, List.forall_mem_cons.mpr ⟨gv_114_1, List.forall_mem_cons.mpr ⟨gv_114_2, List.forall_mem_cons.mpr ⟨gv_114_3, fun _ h => absurd h List.not_mem_nil⟩⟩⟩⟩
def gi_115_0 : List (Nat × Instr × Nat) := [(0, .aload_n 0, 1), (1, .iconst 0, 1), (2, .putfield 23, 3), (5, .aload_n 0, 1), (6, .iload_n 1, 1), (7, .invokevirtual 57, 3), (10, .ifCond .ne 9, 3), (13, .aload_n 0, 1), (14, .iconst 1, 1), (15, .invokevirtual 41, 3), (18, .ireturn, 1), (19, .iload_n 2, 1), (20, .iconst 0, 1), (21, .bipush 11, 2), (23, .invokestatic 34, 3), (26, .ifCond .eq 12, 3), (29, .aload_n 0, 1), (30, .iload_n 1, 1), (31, .iload_n 2, 1)]
set_option maxRecDepth 100000 in
theorem gv_115_0 : g_okc cX7_ofBar gi_115_0 = true := by decide +kernel
def gi_115_1 : List (Nat × Instr × Nat) := [(32, .invokevirtual 124, 3), (35, .goto 8, 3), (38, .aload_n 0, 1), (39, .iconst 2, 1), (40, .invokevirtual 41, 3), (43, .ireturn, 1)]
set_option maxRecDepth 100000 in
theorem gv_115_1 : g_okc cX7_ofBar gi_115_1 = true := by decide +kernel
def gi_115 : List (List (Nat × Instr × Nat)) := [gi_115_0, gi_115_1]
theorem gv_115 : ∀ ch ∈ gi_115, g_okc cX7_ofBar ch = true := List.forall_mem_cons.mpr ⟨gv_115_0, List.forall_mem_cons.mpr ⟨gv_115_1, fun _ h => absurd h List.not_mem_nil⟩⟩
def gi_116_0 : List (Nat × Instr × Nat) := [(0, .aload_n 0, 1), (1, .iload_n 1, 1), (2, .invokevirtual 157, 3), (5, .astore_n 3, 1), (6, .iload_n 2, 1), (7, .tableswitch 49 0 3 #[29, 34, 39, 44], 29)]
set_option maxRecDepth 100000 in
theorem gv_116_0 : g_okc cX5_ofPiece gi_116_0 = true := by decide +kernel
def gi_116_1 : List (Nat × Instr × Nat) := [(36, .aload_n 3, 1), (37, .getfield 73, 3), (40, .ireturn, 1), (41, .aload_n 3, 1), (42, .getfield 76, 3), (45, .ireturn, 1), (46, .aload_n 3, 1), (47, .getfield 79, 3), (50, .ireturn, 1), (51, .aload_n 3, 1), (52, .getfield 161, 3), (55, .ireturn, 1), (56, .new 30, 3), (59, .dup, 1), (60, .ldc 237, 2), (62, .invokespecial 34, 3)]
set_option maxRecDepth 100000 in
theorem gv_116_1 : g_okc cX5_ofPiece gi_116_1 = true := by decide +kernel
def gi_116_2 : List (Nat × Instr × Nat) := [(65, .athrow, 1)]
set_option maxRecDepth 100000 in
theorem gv_116_2 : g_okc cX5_ofPiece gi_116_2 = true := by decide +kernel
def gi_116 : List (List (Nat × Instr × Nat)) := [gi_116_0, gi_116_1, gi_116_2]
theorem gv_116 : ∀ ch ∈ gi_116, g_okc cX5_ofPiece ch = true := List.forall_mem_cons.mpr ⟨gv_116_0, List.forall_mem_cons.mpr ⟨gv_116_1, List.forall_mem_cons.mpr ⟨gv_116_2, fun _ h => absurd h List.not_mem_nil⟩⟩⟩
def gi_117_0 : List (Nat × Instr × Nat) := [(0, .aload_n 3, 1), (1, .iconst 0, 1), (2, .aload_n 0, 1), (3, .iload_n 1, 1), (4, .iload_n 2, 1), (5, .invokevirtual 69, 3), (8, .i2l, 1), (9, .lastore, 1), (10, .goto 11, 3), (13, .astore 4, 2), (15, .iconst 1, 1), (16, .ireturn, 1), (17, .astore 4, 2), (19, .iconst 2, 1), (20, .ireturn, 1), (21, .iconst 0, 1), (22, .ireturn, 1)]
set_option maxRecDepth 100000 in
theorem gv_117_0 : g_okc cL_ofPiece gi_117_0 = true := by decide +kernel
def gi_117 : List (List (Nat × Instr × Nat)) := [gi_117_0]
theorem gv_117 : ∀ ch ∈ gi_117, g_okc cL_ofPiece ch = true := List.forall_mem_cons.mpr ⟨gv_117_0, fun _ h => absurd h List.not_mem_nil⟩
def gi_118_0 : List (Nat × Instr × Nat) := [(0, .aload_n 0, 1), (1, .iconst 0, 1), (2, .putfield 23, 3), (5, .aload_n 0, 1), (6, .iload_n 1, 1), (7, .invokevirtual 91, 3), (10, .ifCond .ne 9, 3), (13, .aload_n 0, 1), (14, .iconst 1, 1), (15, .invokevirtual 41, 3), (18, .ireturn, 1), (19, .iload_n 2, 1), (20, .iconst 0, 1), (21, .iconst 3, 1), (22, .invokestatic 34, 3), (25, .ifCond .eq 19, 3), (28, .aload_n 0, 1), (29, .getfield 10, 3)]
set_option maxRecDepth 100000 in
theorem gv_118_0 : g_okc cX7_ofPiece gi_118_0 = true := by decide +kernel
def gi_118_1 : List (Nat × Instr × Nat) := [(32, .iload_n 1, 1), (33, .invokevirtual 60, 3), (36, .checkcast 81, 3), (39, .iload_n 2, 1), (40, .iaload, 1), (41, .goto 8, 3), (44, .aload_n 0, 1), (45, .iconst 2, 1), (46, .invokevirtual 41, 3), (49, .ireturn, 1)]
set_option maxRecDepth 100000 in
theorem gv_118_1 : g_okc cX7_ofPiece gi_118_1 = true := by decide +kernel
def gi_118 : List (List (Nat × Instr × Nat)) := [gi_118_0, gi_118_1]
theorem gv_118 : ∀ ch ∈ gi_118, g_okc cX7_ofPiece ch = true := List.forall_mem_cons.mpr ⟨gv_118_0, List.forall_mem_cons.mpr ⟨gv_118_1, fun _ h => absurd h List.not_mem_nil⟩⟩
def gi_119_0 : List (Nat × Instr × Nat) := [(0, .iload_n 1, 1), (1, .ifCond .lt 11, 3), (4, .iload_n 1, 1), (5, .aload_n 0, 1), (6, .getfield 22, 3), (9, .if_icmp .lt 13, 3), (12, .new 29, 3), (15, .dup, 1), (16, .ldc 31, 2), (18, .invokespecial 33, 3), (21, .athrow, 1), (22, .aload_n 0, 1), (23, .getfield 17, 3), (26, .iload_n 1, 1), (27, .aaload, 1), (28, .areturn, 1)]
set_option maxRecDepth 100000 in
theorem gv_119_0 : g_okc cX1_moveAt gi_119_0 = true := by decide +kernel
def gi_119 : List (List (Nat × Instr × Nat)) := [gi_119_0]
theorem gv_119 : ∀ ch ∈ gi_119, g_okc cX1_moveAt ch = true := List.forall_mem_cons.mpr ⟨gv_119_0, fun _ h => absurd h List.not_mem_nil⟩
def gi_120_0 : List (Nat × Instr × Nat) := [(0, .aload_n 0, 1), (1, .getfield 10, 3), (4, .iload_n 1, 1), (5, .invokevirtual 98, 3), (8, .iload_n 2, 1), (9, .invokevirtual 239, 3), (12, .astore 4, 2), (14, .iload_n 3, 1), (15, .tableswitch 73 0 5 #[37, 43, 49, 55, 61, 67], 37)]
set_option maxRecDepth 100000 in
theorem gv_120_0 : g_okc cX5_ofMove gi_120_0 = true := by decide +kernel
def gi_120_1 : List (Nat × Instr × Nat) := [(52, .aload 4, 2), (54, .getfield 132, 3), (57, .ireturn, 1), (58, .aload 4, 2), (60, .getfield 137, 3), (63, .ireturn, 1)]
set_option maxRecDepth 100000 in
theorem gv_120_1 : g_okc cX5_ofMove gi_120_1 = true := by decide +kernel
def gi_120_2 : List (Nat × Instr × Nat) := [(64, .aload 4, 2), (66, .getfield 140, 3), (69, .ireturn, 1), (70, .aload 4, 2), (72, .getfield 143, 3), (75, .ireturn, 1), (76, .aload 4, 2), (78, .getfield 243, 3), (81, .ireturn, 1), (82, .aload 4, 2), (84, .getfield 246, 3), (87, .ireturn, 1), (88, .new 30, 3), (91, .dup, 1), (92, .ldc 249, 2), (94, .invokespecial 34, 3)]
set_option maxRecDepth 100000 in
theorem gv_120_2 : g_okc cX5_ofMove gi_120_2 = true := by decide +kernel
def gi_120_3 : List (Nat × Instr × Nat) := [(97, .athrow, 1)]
set_option maxRecDepth 100000 in
theorem gv_120_3 : g_okc cX5_ofMove gi_120_3 = true := by decide +kernel
def gi_120 : List (List (Nat × Instr × Nat)) := [gi_120_0, gi_120_1, gi_120_2, gi_120_3]
theorem gv_120 : ∀ ch ∈ gi_120, g_okc cX5_ofMove ch = true := List.forall_mem_cons.mpr ⟨gv_120_0, List.forall_mem_cons.mpr ⟨gv_120_1, List.forall_mem_cons.mpr ⟨gv_120_2, List.forall_mem_cons.mpr ⟨gv_120_3, fun _ h => absurd h List.not_mem_nil⟩⟩⟩⟩
def gi_121_0 : List (Nat × Instr × Nat) := [(0, .aload 4, 2), (2, .iconst 0, 1), (3, .aload_n 0, 1), (4, .iload_n 1, 1), (5, .iload_n 2, 1), (6, .iload_n 3, 1), (7, .invokevirtual 72, 3), (10, .i2l, 1), (11, .lastore, 1), (12, .goto 11, 3), (15, .astore 5, 2), (17, .iconst 1, 1), (18, .ireturn, 1), (19, .astore 5, 2), (21, .iconst 2, 1), (22, .ireturn, 1), (23, .iconst 0, 1), (24, .ireturn, 1)]
set_option maxRecDepth 100000 in
theorem gv_121_0 : g_okc cL_ofMove gi_121_0 = true := by decide +kernel
def gi_121 : List (List (Nat × Instr × Nat)) := [gi_121_0]
theorem gv_121 : ∀ ch ∈ gi_121, g_okc cL_ofMove ch = true := List.forall_mem_cons.mpr ⟨gv_121_0, fun _ h => absurd h List.not_mem_nil⟩
def gi_122_0 : List (Nat × Instr × Nat) := [(0, .aload_n 0, 1), (1, .iconst 0, 1), (2, .putfield 23, 3), (5, .aload_n 0, 1), (6, .iload_n 1, 1), (7, .invokevirtual 53, 3), (10, .ifCond .eq 30, 3), (13, .iload_n 2, 1), (14, .iconst 0, 1), (15, .aload_n 0, 1), (16, .getfield 19, 3), (19, .getfield 38, 3), (22, .iload_n 1, 1), (23, .invokevirtual 60, 3), (26, .checkcast 7, 3), (29, .invokevirtual 30, 3)]
set_option maxRecDepth 100000 in
theorem gv_122_0 : g_okc cX7_ofMove gi_122_0 = true := by decide +kernel
def gi_122_1 : List (Nat × Instr × Nat) := [(32, .iconst 1, 1), (33, .isub, 1), (34, .invokestatic 34, 3), (37, .ifCond .ne 9, 3), (40, .aload_n 0, 1), (41, .iconst 1, 1), (42, .invokevirtual 41, 3), (45, .ireturn, 1), (46, .iload_n 3, 1), (47, .iconst 0, 1), (48, .iconst 5, 1), (49, .invokestatic 34, 3), (52, .ifCond .eq 29, 3), (55, .aload_n 0, 1), (56, .getfield 19, 3), (59, .getfield 38, 3), (62, .iload_n 1, 1), (63, .invokevirtual 60, 3)]
set_option maxRecDepth 100000 in
theorem gv_122_1 : g_okc cX7_ofMove gi_122_1 = true := by decide +kernel
def gi_122_2 : List (Nat × Instr × Nat) := [(66, .checkcast 7, 3), (69, .iload_n 2, 1), (70, .invokevirtual 60, 3), (73, .checkcast 81, 3), (76, .iload_n 3, 1), (77, .iaload, 1), (78, .goto 8, 3), (81, .aload_n 0, 1), (82, .iconst 2, 1), (83, .invokevirtual 41, 3), (86, .ireturn, 1)]
set_option maxRecDepth 100000 in
theorem gv_122_2 : g_okc cX7_ofMove gi_122_2 = true := by decide +kernel
def gi_122 : List (List (Nat × Instr × Nat)) := [gi_122_0, gi_122_1, gi_122_2]
theorem gv_122 : ∀ ch ∈ gi_122, g_okc cX7_ofMove ch = true := List.forall_mem_cons.mpr ⟨gv_122_0, List.forall_mem_cons.mpr ⟨gv_122_1, List.forall_mem_cons.mpr ⟨gv_122_2, fun _ h => absurd h List.not_mem_nil⟩⟩⟩
def gi_123_0 : List (Nat × Instr × Nat) := [(0, .aload_n 0, 1), (1, .getfield 10, 3), (4, .iload_n 1, 1), (5, .invokevirtual 102, 3), (8, .astore_n 3, 1), (9, .aload_n 0, 1), (10, .getfield 10, 3), (13, .iload_n 2, 1), (14, .invokevirtual 102, 3), (17, .astore 4, 2), (19, .aload_n 3, 1), (20, .aload_n 3, 1), (21, .getfield 223, 3), (24, .aload 4, 2), (26, .invokevirtual 251, 3), (29, .ireturn, 1)]
set_option maxRecDepth 100000 in
theorem gv_123_0 : g_okc cX5_touch gi_123_0 = true := by decide +kernel
def gi_123 : List (List (Nat × Instr × Nat)) := [gi_123_0]
theorem gv_123 : ∀ ch ∈ gi_123, g_okc cX5_touch ch = true := List.forall_mem_cons.mpr ⟨gv_123_0, fun _ h => absurd h List.not_mem_nil⟩
def gi_124_0 : List (Nat × Instr × Nat) := [(0, .aload_n 3, 1), (1, .iconst 0, 1), (2, .aload_n 0, 1), (3, .iload_n 1, 1), (4, .iload_n 2, 1), (5, .invokevirtual 75, 3), (8, .ifCond .eq 7, 3), (11, .lconst 1, 1), (12, .goto 4, 3), (15, .lconst 0, 1), (16, .lastore, 1), (17, .goto 7, 3), (20, .astore 4, 2), (22, .iconst 1, 1), (23, .ireturn, 1), (24, .iconst 0, 1), (25, .ireturn, 1)]
set_option maxRecDepth 100000 in
theorem gv_124_0 : g_okc cL_touch gi_124_0 = true := by decide +kernel
def gi_124 : List (List (Nat × Instr × Nat)) := [gi_124_0]
theorem gv_124 : ∀ ch ∈ gi_124, g_okc cL_touch ch = true := List.forall_mem_cons.mpr ⟨gv_124_0, fun _ h => absurd h List.not_mem_nil⟩
def gi_125_0 : List (Nat × Instr × Nat) := [(0, .aload_n 0, 1), (1, .aload_n 0, 1), (2, .iload_n 1, 1), (3, .invokevirtual 57, 3), (6, .ifCond .eq 15, 3), (9, .aload_n 0, 1), (10, .iload_n 2, 1), (11, .invokevirtual 57, 3), (14, .ifCond .eq 7, 3), (17, .iconst 0, 1), (18, .goto 4, 3), (21, .iconst 1, 1), (22, .putfield 23, 3), (25, .aload_n 0, 1), (26, .getfield 23, 3), (29, .ifCond .ne 35, 3)]
set_option maxRecDepth 100000 in
theorem gv_125_0 : g_okc cX7_touch gi_125_0 = true := by decide +kernel
def gi_125_1 : List (Nat × Instr × Nat) := [(32, .aload_n 0, 1), (33, .getfield 19, 3), (36, .iload_n 1, 1), (37, .aload_n 0, 1), (38, .getfield 19, 3), (41, .getfield 27, 3), (44, .iload_n 1, 1), (45, .invokevirtual 60, 3), (48, .checkcast 81, 3), (51, .iconst 2, 1), (52, .iaload, 1), (53, .iload_n 2, 1), (54, .invokevirtual 127, 3), (57, .ifCond .eq 7, 3), (60, .iconst 1, 1), (61, .goto 4, 3)]
set_option maxRecDepth 100000 in
theorem gv_125_1 : g_okc cX7_touch gi_125_1 = true := by decide +kernel
def gi_125_2 : List (Nat × Instr × Nat) := [(64, .iconst 0, 1), (65, .ireturn, 1)]
set_option maxRecDepth 100000 in
theorem gv_125_2 : g_okc cX7_touch gi_125_2 = true := by decide +kernel
def gi_125 : List (List (Nat × Instr × Nat)) := [gi_125_0, gi_125_1, gi_125_2]
theorem gv_125 : ∀ ch ∈ gi_125, g_okc cX7_touch ch = true := List.forall_mem_cons.mpr ⟨gv_125_0, List.forall_mem_cons.mpr ⟨gv_125_1, List.forall_mem_cons.mpr ⟨gv_125_2, fun _ h => absurd h List.not_mem_nil⟩⟩⟩
def gi_126_0 : List (Nat × Instr × Nat) := [(0, .iconst 0, 1), (1, .istore_n 1, 1), (2, .iconst 0, 1), (3, .istore_n 2, 1), (4, .iload_n 2, 1), (5, .aload_n 0, 1), (6, .getfield 37, 3), (9, .if_icmp .ge 27, 3), (12, .aload_n 0, 1), (13, .getfield 23, 3), (16, .iload_n 2, 1), (17, .aaload, 1), (18, .getfield 93, 3), (21, .ifCond .eq 9, 3), (24, .iload_n 1, 1), (25, .iconst 1, 1), (26, .iload_n 2, 1), (27, .ishl, 1), (28, .ior, 1), (29, .istore_n 1, 1), (30, .iinc 2 1, 3)]
set_option maxRecDepth 100000 in
theorem gv_126_0 : g_okc cX4_brokenBrakes gi_126_0 = true := by decide +kernel
def gi_126_1 : List (Nat × Instr × Nat) := [(33, .goto (-29), 3), (36, .iload_n 1, 1), (37, .ireturn, 1)]
set_option maxRecDepth 100000 in
theorem gv_126_1 : g_okc cX4_brokenBrakes gi_126_1 = true := by decide +kernel
def gi_126 : List (List (Nat × Instr × Nat)) := [gi_126_0, gi_126_1]
theorem gv_126 : ∀ ch ∈ gi_126, g_okc cX4_brokenBrakes ch = true := List.forall_mem_cons.mpr ⟨gv_126_0, List.forall_mem_cons.mpr ⟨gv_126_1, fun _ h => absurd h List.not_mem_nil⟩⟩
def gi_127_0 : List (Nat × Instr × Nat) := [(0, .iload_n 1, 1), (1, .tableswitch 212 0 15 #[79, 87, 95, 100, 108, 116, 124, 140, 148, 156, 164, 172, 180, 188, 196, 204], 79)]
set_option maxRecDepth 100000 in
theorem gv_127_0 : g_okc cX5_many gi_127_0 = true := by decide +kernel
def gi_127_1 : List (Nat × Instr × Nat) := []
set_option maxRecDepth 100000 in
theorem gv_127_1 : g_okc cX5_many gi_127_1 = true := by decide +kernel
def gi_127_2 : List (Nat × Instr × Nat) := [(80, .aload_n 0, 1), (81, .getfield 10, 3), (84, .getfield 212, 3), (87, .ireturn, 1), (88, .aload_n 0, 1), (89, .getfield 10, 3), (92, .getfield 37, 3), (95, .ireturn, 1)]
set_option maxRecDepth 100000 in
theorem gv_127_2 : g_okc cX5_many gi_127_2 = true := by decide +kernel
def gi_127_3 : List (Nat × Instr × Nat) := [(96, .aload_n 0, 1), (97, .getfield 68, 3), (100, .ireturn, 1), (101, .aload_n 0, 1), (102, .getfield 10, 3), (105, .getfield 84, 3), (108, .ireturn, 1), (109, .aload_n 0, 1), (110, .getfield 10, 3), (113, .getfield 148, 3), (116, .ireturn, 1), (117, .aload_n 0, 1), (118, .getfield 10, 3), (121, .getfield 112, 3), (124, .ireturn, 1), (125, .aload_n 0, 1), (126, .getfield 10, 3)]
set_option maxRecDepth 100000 in
theorem gv_127_3 : g_okc cX5_many gi_127_3 = true := by decide +kernel
def gi_127_4 : List (Nat × Instr × Nat) := [(129, .getfield 198, 3), (132, .ifCond .eq 7, 3), (135, .iconst 1, 1), (136, .goto 4, 3), (139, .iconst 0, 1), (140, .ireturn, 1), (141, .aload_n 0, 1), (142, .getfield 10, 3), (145, .getfield 255, 3), (148, .ireturn, 1), (149, .aload_n 0, 1), (150, .getfield 10, 3), (153, .invokevirtual 201, 3), (156, .ireturn, 1), (157, .aload_n 0, 1), (158, .getfield 10, 3)]
set_option maxRecDepth 100000 in
theorem gv_127_4 : g_okc cX5_many gi_127_4 = true := by decide +kernel
def gi_127_5 : List (Nat × Instr × Nat) := [(161, .getfield 258, 3), (164, .ireturn, 1), (165, .aload_n 0, 1), (166, .getfield 10, 3), (169, .getfield 261, 3), (172, .ireturn, 1), (173, .aload_n 0, 1), (174, .getfield 10, 3), (177, .getfield 264, 3), (180, .ireturn, 1), (181, .aload_n 0, 1), (182, .getfield 10, 3), (185, .getfield 267, 3), (188, .ireturn, 1), (189, .aload_n 0, 1), (190, .getfield 10, 3)]
set_option maxRecDepth 100000 in
theorem gv_127_5 : g_okc cX5_many gi_127_5 = true := by decide +kernel
def gi_127_6 : List (Nat × Instr × Nat) := [(193, .getfield 270, 3), (196, .ireturn, 1), (197, .aload_n 0, 1), (198, .getfield 10, 3), (201, .getfield 273, 3), (204, .ireturn, 1), (205, .aload_n 0, 1), (206, .getfield 10, 3), (209, .invokevirtual 274, 3), (212, .ireturn, 1), (213, .new 30, 3), (216, .dup, 1), (217, .ldc_w 277, 3), (220, .invokespecial 34, 3), (223, .athrow, 1)]
set_option maxRecDepth 100000 in
theorem gv_127_6 : g_okc cX5_many gi_127_6 = true := by decide +kernel
def gi_127 : List (List (Nat × Instr × Nat)) := [gi_127_0, gi_127_1, gi_127_2, gi_127_3, gi_127_4, gi_127_5, gi_127_6]
theorem gv_127 : ∀ ch ∈ gi_127, g_okc cX5_many ch = true := List.forall_mem_cons.mpr ⟨gv_127_0, List.forall_mem_cons.mpr ⟨gv_127_1, List.forall_mem_cons.mpr ⟨gv_127_2, List.forall_mem_cons.mpr ⟨gv_127_3, List.forall_mem_cons.mpr ⟨gv_127_4, List.forall_mem_cons.mpr ⟨gv_127_5, List.forall_mem_cons.mpr ⟨gv_127_6, fun _ h => absurd h List.not_mem_nil⟩⟩⟩⟩⟩⟩⟩
def gi_128_0 : List (Nat × Instr × Nat) := [(0, .aload_n 2, 1), (1, .iconst 0, 1), (2, .aload_n 0, 1), (3, .iload_n 1, 1), (4, .invokevirtual 79, 3), (7, .i2l, 1), (8, .lastore, 1), (9, .goto 6, 3), (12, .astore_n 3, 1), (13, .iconst 1, 1), (14, .ireturn, 1), (15, .iconst 0, 1), (16, .ireturn, 1)]
set_option maxRecDepth 100000 in
theorem gv_128_0 : g_okc cL_many gi_128_0 = true := by decide +kernel
def gi_128 : List (List (Nat × Instr × Nat)) := [gi_128_0]
theorem gv_128 : ∀ ch ∈ gi_128, g_okc cL_many ch = true := List.forall_mem_cons.mpr ⟨gv_128_0, fun _ h => absurd h List.not_mem_nil⟩
def gi_129_0 : List (Nat × Instr × Nat) := [(0, .iconst 0, 1), (1, .istore_n 2, 1), (2, .iconst 0, 1), (3, .istore_n 3, 1), (4, .iload_n 3, 1), (5, .aload_n 0, 1), (6, .getfield 19, 3), (9, .getfield 27, 3), (12, .invokevirtual 30, 3), (15, .if_icmp .ge 31, 3), (18, .iload_n 2, 1), (19, .aload_n 0, 1), (20, .getfield 19, 3), (23, .getfield 27, 3), (26, .iload_n 3, 1), (27, .invokevirtual 60, 3), (30, .checkcast 81, 3)]
set_option maxRecDepth 100000 in
theorem gv_129_0 : g_okc cX7_manyNow gi_129_0 = true := by decide +kernel
def gi_129_1 : List (Nat × Instr × Nat) := [(33, .bipush 6, 2), (35, .iaload, 1), (36, .iload_n 3, 1), (37, .ishl, 1), (38, .ior, 1), (39, .istore_n 2, 1), (40, .iinc 3 1, 3), (43, .goto (-39), 3), (46, .bipush 16, 2), (48, .newarray .int, 2), (50, .dup, 1), (51, .iconst 0, 1), (52, .aload_n 0, 1), (53, .getfield 19, 3), (56, .getfield 118, 3), (59, .iastore, 1), (60, .dup, 1), (61, .iconst 1, 1), (62, .aload_n 0, 1), (63, .getfield 19, 3)]
set_option maxRecDepth 100000 in
theorem gv_129_1 : g_okc cX7_manyNow gi_129_1 = true := by decide +kernel
def gi_129_2 : List (Nat × Instr × Nat) := [(66, .getfield 27, 3), (69, .invokevirtual 30, 3), (72, .iastore, 1), (73, .dup, 1), (74, .iconst 2, 1), (75, .aload_n 0, 1), (76, .getfield 10, 3), (79, .invokevirtual 30, 3), (82, .iastore, 1), (83, .dup, 1), (84, .iconst 3, 1), (85, .aload_n 0, 1), (86, .getfield 19, 3), (89, .getfield 38, 3), (92, .invokevirtual 30, 3), (95, .iastore, 1)]
set_option maxRecDepth 100000 in
theorem gv_129_2 : g_okc cX7_manyNow gi_129_2 = true := by decide +kernel
def gi_129_3 : List (Nat × Instr × Nat) := [(96, .dup, 1), (97, .iconst 4, 1), (98, .aload_n 0, 1), (99, .getfield 19, 3), (102, .getfield 82, 3), (105, .iastore, 1), (106, .dup, 1), (107, .iconst 5, 1), (108, .aload_n 0, 1), (109, .getfield 19, 3), (112, .getfield 64, 3), (115, .iastore, 1), (116, .dup, 1), (117, .bipush 6, 2), (119, .aload_n 0, 1), (120, .getfield 19, 3), (123, .getfield 108, 3), (126, .ifCond .eq 7, 3)]
set_option maxRecDepth 100000 in
theorem gv_129_3 : g_okc cX7_manyNow gi_129_3 = true := by decide +kernel
def gi_129_4 : List (Nat × Instr × Nat) := [(129, .iconst 1, 1), (130, .goto 4, 3), (133, .iconst 0, 1), (134, .iastore, 1), (135, .dup, 1), (136, .bipush 7, 2), (138, .aload_n 0, 1), (139, .getfield 19, 3), (142, .getfield 130, 3), (145, .iastore, 1), (146, .dup, 1), (147, .bipush 8, 2), (149, .aload_n 0, 1), (150, .getfield 19, 3), (153, .invokevirtual 112, 3), (156, .iastore, 1), (157, .dup, 1), (158, .bipush 9, 2)]
set_option maxRecDepth 100000 in
theorem gv_129_4 : g_okc cX7_manyNow gi_129_4 = true := by decide +kernel
def gi_129_5 : List (Nat × Instr × Nat) := [(160, .aload_n 0, 1), (161, .getfield 19, 3), (164, .getfield 133, 3), (167, .iastore, 1), (168, .dup, 1), (169, .bipush 10, 2), (171, .aload_n 0, 1), (172, .getfield 19, 3), (175, .getfield 136, 3), (178, .iastore, 1), (179, .dup, 1), (180, .bipush 11, 2), (182, .aload_n 0, 1), (183, .getfield 19, 3), (186, .getfield 139, 3), (189, .iastore, 1), (190, .dup, 1), (191, .bipush 12, 2)]
set_option maxRecDepth 100000 in
theorem gv_129_5 : g_okc cX7_manyNow gi_129_5 = true := by decide +kernel
def gi_129_6 : List (Nat × Instr × Nat) := [(193, .aload_n 0, 1), (194, .getfield 19, 3), (197, .getfield 142, 3), (200, .iastore, 1), (201, .dup, 1), (202, .bipush 13, 2), (204, .aload_n 0, 1), (205, .getfield 19, 3), (208, .getfield 145, 3), (211, .iastore, 1), (212, .dup, 1), (213, .bipush 14, 2), (215, .aload_n 0, 1), (216, .getfield 19, 3), (219, .getfield 148, 3), (222, .iastore, 1), (223, .dup, 1)]
set_option maxRecDepth 100000 in
theorem gv_129_6 : g_okc cX7_manyNow gi_129_6 = true := by decide +kernel
def gi_129_7 : List (Nat × Instr × Nat) := [(224, .bipush 15, 2), (226, .iload_n 2, 1), (227, .iastore, 1), (228, .astore_n 3, 1), (229, .aload_n 3, 1), (230, .iload_n 1, 1), (231, .iaload, 1), (232, .ireturn, 1)]
set_option maxRecDepth 100000 in
theorem gv_129_7 : g_okc cX7_manyNow gi_129_7 = true := by decide +kernel
def gi_129 : List (List (Nat × Instr × Nat)) := [gi_129_0, gi_129_1, gi_129_2, gi_129_3, gi_129_4, gi_129_5, gi_129_6, gi_129_7]
theorem gv_129 : ∀ ch ∈ gi_129, g_okc cX7_manyNow ch = true := List.forall_mem_cons.mpr ⟨gv_129_0, List.forall_mem_cons.mpr ⟨gv_129_1, List.forall_mem_cons.mpr ⟨gv_129_2, List.forall_mem_cons.mpr ⟨gv_129_3, List.forall_mem_cons.mpr ⟨gv_129_4, List.forall_mem_cons.mpr ⟨gv_129_5, List.forall_mem_cons.mpr ⟨gv_129_6, List.forall_mem_cons.mpr ⟨gv_129_7, fun _ h => absurd h List.not_mem_nil⟩⟩⟩⟩⟩⟩⟩⟩
def gi_130_0 : List (Nat × Instr × Nat) := [(0, .aload_n 0, 1), (1, .iconst 0, 1), (2, .putfield 23, 3), (5, .iload_n 1, 1), (6, .iconst 0, 1), (7, .bipush 15, 2), (9, .invokestatic 34, 3), (12, .ifCond .eq 11, 3), (15, .aload_n 0, 1), (16, .iload_n 1, 1), (17, .invokevirtual 151, 3), (20, .goto 8, 3), (23, .aload_n 0, 1), (24, .iconst 1, 1), (25, .invokevirtual 41, 3), (28, .ireturn, 1)]
set_option maxRecDepth 100000 in
theorem gv_130_0 : g_okc cX7_many gi_130_0 = true := by decide +kernel
def gi_130 : List (List (Nat × Instr × Nat)) := [gi_130_0]
theorem gv_130 : ∀ ch ∈ gi_130, g_okc cX7_many ch = true := List.forall_mem_cons.mpr ⟨gv_130_0, fun _ h => absurd h List.not_mem_nil⟩
def gi_131_0 : List (Nat × Instr × Nat) := [(0, .aload_n 0, 1), (1, .getfield 10, 3), (4, .getfield 37, 3), (7, .ifCond .ne 5, 3), (10, .dconst 0, 1), (11, .dreturn, 1), (12, .iconst 0, 1), (13, .istore_n 1, 1), (14, .iconst 0, 1), (15, .istore_n 2, 1), (16, .iload_n 2, 1), (17, .aload_n 0, 1), (18, .getfield 10, 3), (21, .getfield 37, 3), (24, .if_icmp .ge 24, 3), (27, .iload_n 1, 1), (28, .aload_n 0, 1), (29, .getfield 10, 3)]
set_option maxRecDepth 100000 in
theorem gv_131_0 : g_okc cX5_meanHeight gi_131_0 = true := by decide +kernel
def gi_131_1 : List (Nat × Instr × Nat) := [(32, .getfield 46, 3), (35, .iload_n 2, 1), (36, .aaload, 1), (37, .getfield 223, 3), (40, .iadd, 1), (41, .istore_n 1, 1), (42, .iinc 2 1, 3), (45, .goto (-29), 3), (48, .iload_n 1, 1), (49, .i2d, 1), (50, .aload_n 0, 1), (51, .getfield 10, 3), (54, .getfield 37, 3), (57, .i2d, 1), (58, .ddiv, 1), (59, .dreturn, 1)]
set_option maxRecDepth 100000 in
theorem gv_131_1 : g_okc cX5_meanHeight gi_131_1 = true := by decide +kernel
def gi_131 : List (List (Nat × Instr × Nat)) := [gi_131_0, gi_131_1]
theorem gv_131 : ∀ ch ∈ gi_131, g_okc cX5_meanHeight ch = true := List.forall_mem_cons.mpr ⟨gv_131_0, List.forall_mem_cons.mpr ⟨gv_131_1, fun _ h => absurd h List.not_mem_nil⟩⟩
def gi_132_0 : List (Nat × Instr × Nat) := [(0, .aload_n 0, 1), (1, .getfield 48, 3), (4, .ifCond .ne 7, 3), (7, .iconst 1, 1), (8, .goto 4, 3), (11, .iconst 0, 1), (12, .ireturn, 1)]
set_option maxRecDepth 100000 in
theorem gv_132_0 : g_okc cJx4a65c_isEmpty_aae02 gi_132_0 = true := by decide +kernel
def gi_132 : List (List (Nat × Instr × Nat)) := [gi_132_0]
theorem gv_132 : ∀ ch ∈ gi_132, g_okc cJx4a65c_isEmpty_aae02 ch = true := List.forall_mem_cons.mpr ⟨gv_132_0, fun _ h => absurd h List.not_mem_nil⟩
def gi_133_0 : List (Nat × Instr × Nat) := [(0, .aload_n 0, 1), (1, .iconst 0, 1), (2, .putfield 23, 3), (5, .iconst 0, 1), (6, .istore_n 1, 1), (7, .aload_n 0, 1), (8, .getfield 19, 3), (11, .getfield 27, 3), (14, .invokevirtual 67, 3), (17, .astore_n 2, 1), (18, .aload_n 2, 1), (19, .invokeinterface 71 1, 5), (24, .ifCond .eq 22, 3), (27, .aload_n 2, 1), (28, .invokeinterface 77 1, 5)]
set_option maxRecDepth 100000 in
theorem gv_133_0 : g_okc cX7_meanHeight gi_133_0 = true := by decide +kernel
def gi_133_1 : List (Nat × Instr × Nat) := [(33, .checkcast 81, 3), (36, .astore_n 3, 1), (37, .iload_n 1, 1), (38, .aload_n 3, 1), (39, .iconst 2, 1), (40, .iaload, 1), (41, .iadd, 1), (42, .istore_n 1, 1), (43, .goto (-25), 3), (46, .aload_n 0, 1), (47, .getfield 19, 3), (50, .getfield 27, 3), (53, .invokevirtual 154, 3), (56, .ifCond .eq 7, 3), (59, .dconst 0, 1), (60, .goto 17, 3), (63, .iload_n 1, 1)]
set_option maxRecDepth 100000 in
theorem gv_133_1 : g_okc cX7_meanHeight gi_133_1 = true := by decide +kernel
def gi_133_2 : List (Nat × Instr × Nat) := [(64, .i2d, 1), (65, .aload_n 0, 1), (66, .getfield 19, 3), (69, .getfield 27, 3), (72, .invokevirtual 30, 3), (75, .i2d, 1), (76, .ddiv, 1), (77, .dreturn, 1)]
set_option maxRecDepth 100000 in
theorem gv_133_2 : g_okc cX7_meanHeight gi_133_2 = true := by decide +kernel
def gi_133 : List (List (Nat × Instr × Nat)) := [gi_133_0, gi_133_1, gi_133_2]
theorem gv_133 : ∀ ch ∈ gi_133, g_okc cX7_meanHeight ch = true := List.forall_mem_cons.mpr ⟨gv_133_0, List.forall_mem_cons.mpr ⟨gv_133_1, List.forall_mem_cons.mpr ⟨gv_133_2, fun _ h => absurd h List.not_mem_nil⟩⟩⟩
def gi_134_0 : List (Nat × Instr × Nat) := [(0, .aload_n 0, 1), (1, .aload_n 1, 1), (2, .getfield 17, 3), (5, .putfield 17, 3), (8, .aload_n 0, 1), (9, .aload_n 1, 1), (10, .getfield 20, 3), (13, .putfield 20, 3), (16, .aload_n 0, 1), (17, .aload_n 1, 1), (18, .getfield 23, 3), (21, .putfield 23, 3), (24, .aload_n 0, 1), (25, .aload_n 1, 1), (26, .getfield 26, 3), (29, .putfield 26, 3)]
set_option maxRecDepth 100000 in
theorem gv_134_0 : g_okc cX0_copyFrom gi_134_0 = true := by decide +kernel
def gi_134_1 : List (Nat × Instr × Nat) := [(32, .aload_n 0, 1), (33, .aload_n 1, 1), (34, .getfield 29, 3), (37, .putfield 29, 3), (40, .aload_n 0, 1), (41, .aload_n 1, 1), (42, .getfield 32, 3), (45, .putfield 32, 3), (48, .aload_n 0, 1), (49, .aload_n 1, 1), (50, .getfield 35, 3), (53, .putfield 35, 3), (56, .aload_n 0, 1), (57, .aload_n 1, 1), (58, .getfield 38, 3), (61, .putfield 38, 3)]
set_option maxRecDepth 100000 in
theorem gv_134_1 : g_okc cX0_copyFrom gi_134_1 = true := by decide +kernel
def gi_134_2 : List (Nat × Instr × Nat) := [(64, .aload_n 0, 1), (65, .aload_n 1, 1), (66, .getfield 7, 3), (69, .putfield 7, 3), (72, .aload_n 0, 1), (73, .aload_n 1, 1), (74, .getfield 41, 3), (77, .putfield 41, 3), (80, .aload_n 0, 1), (81, .aload_n 1, 1), (82, .getfield 44, 3), (85, .putfield 44, 3), (88, .aload_n 0, 1), (89, .aload_n 1, 1), (90, .getfield 47, 3), (93, .putfield 47, 3)]
set_option maxRecDepth 100000 in
theorem gv_134_2 : g_okc cX0_copyFrom gi_134_2 = true := by decide +kernel
def gi_134_3 : List (Nat × Instr × Nat) := [(96, .return_, 1)]
set_option maxRecDepth 100000 in
theorem gv_134_3 : g_okc cX0_copyFrom gi_134_3 = true := by decide +kernel
def gi_134 : List (List (Nat × Instr × Nat)) := [gi_134_0, gi_134_1, gi_134_2, gi_134_3]
theorem gv_134 : ∀ ch ∈ gi_134, g_okc cX0_copyFrom ch = true := List.forall_mem_cons.mpr ⟨gv_134_0, List.forall_mem_cons.mpr ⟨gv_134_1, List.forall_mem_cons.mpr ⟨gv_134_2, List.forall_mem_cons.mpr ⟨gv_134_3, fun _ h => absurd h List.not_mem_nil⟩⟩⟩⟩
def gi_135_0 : List (Nat × Instr × Nat) := [(0, .aload_n 0, 1), (1, .aload_n 1, 1), (2, .getfield 15, 3), (5, .putfield 15, 3), (8, .aload_n 0, 1), (9, .aload_n 1, 1), (10, .getfield 18, 3), (13, .putfield 18, 3), (16, .aload_n 0, 1), (17, .aload_n 1, 1), (18, .getfield 21, 3), (21, .putfield 21, 3), (24, .aload_n 0, 1), (25, .aload_n 1, 1), (26, .getfield 24, 3), (29, .putfield 24, 3)]
set_option maxRecDepth 100000 in
theorem gv_135_0 : g_okc cX2_copyFrom gi_135_0 = true := by decide +kernel
def gi_135_1 : List (Nat × Instr × Nat) := [(32, .aload_n 0, 1), (33, .aload_n 1, 1), (34, .getfield 9, 3), (37, .putfield 9, 3), (40, .aload_n 0, 1), (41, .aload_n 1, 1), (42, .getfield 27, 3), (45, .putfield 27, 3), (48, .return_, 1)]
set_option maxRecDepth 100000 in
theorem gv_135_1 : g_okc cX2_copyFrom gi_135_1 = true := by decide +kernel
def gi_135 : List (List (Nat × Instr × Nat)) := [gi_135_0, gi_135_1]
theorem gv_135 : ∀ ch ∈ gi_135, g_okc cX2_copyFrom ch = true := List.forall_mem_cons.mpr ⟨gv_135_0, List.forall_mem_cons.mpr ⟨gv_135_1, fun _ h => absurd h List.not_mem_nil⟩⟩
def gi_136_0 : List (Nat × Instr × Nat) := [(0, .aload_n 0, 1), (1, .aload_n 1, 1), (2, .getfield 9, 3), (5, .putfield 9, 3), (8, .aload_n 0, 1), (9, .aload_n 1, 1), (10, .getfield 22, 3), (13, .putfield 22, 3), (16, .iconst 0, 1), (17, .istore_n 2, 1), (18, .iload_n 2, 1), (19, .aload_n 0, 1), (20, .getfield 22, 3), (23, .if_icmp .ge 24, 3), (26, .aload_n 0, 1), (27, .getfield 17, 3), (30, .iload_n 2, 1), (31, .aaload, 1)]
set_option maxRecDepth 100000 in
theorem gv_136_0 : g_okc cX1_copyFrom gi_136_0 = true := by decide +kernel
def gi_136_1 : List (Nat × Instr × Nat) := [(32, .aload_n 1, 1), (33, .getfield 17, 3), (36, .iload_n 2, 1), (37, .aaload, 1), (38, .invokevirtual 25, 3), (41, .iinc 2 1, 3), (44, .goto (-26), 3), (47, .return_, 1)]
set_option maxRecDepth 100000 in
theorem gv_136_1 : g_okc cX1_copyFrom gi_136_1 = true := by decide +kernel
def gi_136 : List (List (Nat × Instr × Nat)) := [gi_136_0, gi_136_1]
theorem gv_136 : ∀ ch ∈ gi_136, g_okc cX1_copyFrom ch = true := List.forall_mem_cons.mpr ⟨gv_136_0, List.forall_mem_cons.mpr ⟨gv_136_1, fun _ h => absurd h List.not_mem_nil⟩⟩
def gi_137_0 : List (Nat × Instr × Nat) := [(0, .aload_n 0, 1), (1, .aload_n 1, 1), (2, .getfield 37, 3), (5, .putfield 37, 3), (8, .iconst 0, 1), (9, .istore_n 2, 1), (10, .iload_n 2, 1), (11, .aload_n 0, 1), (12, .getfield 37, 3), (15, .if_icmp .ge 24, 3), (18, .aload_n 0, 1), (19, .getfield 23, 3), (22, .iload_n 2, 1), (23, .aaload, 1), (24, .aload_n 1, 1), (25, .getfield 23, 3), (28, .iload_n 2, 1), (29, .aaload, 1), (30, .invokevirtual 40, 3)]
set_option maxRecDepth 100000 in
theorem gv_137_0 : g_okc cX4_copyFrom gi_137_0 = true := by decide +kernel
def gi_137_1 : List (Nat × Instr × Nat) := [(33, .iinc 2 1, 3), (36, .goto (-26), 3), (39, .aload_n 0, 1), (40, .aload_n 1, 1), (41, .getfield 44, 3), (44, .putfield 44, 3), (47, .iconst 0, 1), (48, .istore_n 2, 1), (49, .iload_n 2, 1), (50, .aload_n 0, 1), (51, .getfield 44, 3), (54, .if_icmp .ge 24, 3), (57, .aload_n 0, 1), (58, .getfield 32, 3), (61, .iload_n 2, 1), (62, .aaload, 1), (63, .aload_n 1, 1)]
set_option maxRecDepth 100000 in
theorem gv_137_1 : g_okc cX4_copyFrom gi_137_1 = true := by decide +kernel
def gi_137_2 : List (Nat × Instr × Nat) := [(64, .getfield 32, 3), (67, .iload_n 2, 1), (68, .aaload, 1), (69, .invokevirtual 47, 3), (72, .iinc 2 1, 3), (75, .goto (-26), 3), (78, .aload_n 0, 1), (79, .aload_n 1, 1), (80, .getfield 9, 3), (83, .putfield 9, 3), (86, .aload_n 0, 1), (87, .aload_n 1, 1), (88, .getfield 50, 3), (91, .putfield 50, 3), (94, .aload_n 0, 1), (95, .aload_n 1, 1)]
set_option maxRecDepth 100000 in
theorem gv_137_2 : g_okc cX4_copyFrom gi_137_2 = true := by decide +kernel
def gi_137_3 : List (Nat × Instr × Nat) := [(96, .getfield 53, 3), (99, .putfield 53, 3), (102, .aload_n 0, 1), (103, .aload_n 1, 1), (104, .getfield 15, 3), (107, .putfield 15, 3), (110, .aload_n 0, 1), (111, .aload_n 1, 1), (112, .getfield 56, 3), (115, .putfield 56, 3), (118, .aload_n 0, 1), (119, .aload_n 1, 1), (120, .getfield 60, 3), (123, .putfield 60, 3), (126, .aload_n 0, 1), (127, .aload_n 1, 1)]
set_option maxRecDepth 100000 in
theorem gv_137_3 : g_okc cX4_copyFrom gi_137_3 = true := by decide +kernel
def gi_137_4 : List (Nat × Instr × Nat) := [(128, .getfield 63, 3), (131, .putfield 63, 3), (134, .aload_n 0, 1), (135, .aload_n 1, 1), (136, .getfield 66, 3), (139, .putfield 66, 3), (142, .aload_n 0, 1), (143, .aload_n 1, 1), (144, .getfield 69, 3), (147, .putfield 69, 3), (150, .aload_n 0, 1), (151, .aload_n 1, 1), (152, .getfield 72, 3), (155, .putfield 72, 3), (158, .aload_n 0, 1), (159, .aload_n 1, 1)]
set_option maxRecDepth 100000 in
theorem gv_137_4 : g_okc cX4_copyFrom gi_137_4 = true := by decide +kernel
def gi_137_5 : List (Nat × Instr × Nat) := [(160, .getfield 75, 3), (163, .putfield 75, 3), (166, .aload_n 0, 1), (167, .aload_n 1, 1), (168, .getfield 78, 3), (171, .putfield 78, 3), (174, .aload_n 0, 1), (175, .aload_n 1, 1), (176, .getfield 81, 3), (179, .putfield 81, 3), (182, .aload_n 0, 1), (183, .iconst (-1), 1), (184, .putfield 18, 3), (187, .return_, 1)]
set_option maxRecDepth 100000 in
theorem gv_137_5 : g_okc cX4_copyFrom gi_137_5 = true := by decide +kernel
def gi_137 : List (List (Nat × Instr × Nat)) := [gi_137_0, gi_137_1, gi_137_2, gi_137_3, gi_137_4, gi_137_5]
theorem gv_137 : ∀ ch ∈ gi_137, g_okc cX4_copyFrom ch = true := List.forall_mem_cons.mpr ⟨gv_137_0, List.forall_mem_cons.mpr ⟨gv_137_1, List.forall_mem_cons.mpr ⟨gv_137_2, List.forall_mem_cons.mpr ⟨gv_137_3, List.forall_mem_cons.mpr ⟨gv_137_4, List.forall_mem_cons.mpr ⟨gv_137_5, fun _ h => absurd h List.not_mem_nil⟩⟩⟩⟩⟩⟩
def gi_138_0 : List (Nat × Instr × Nat) := [(0, .iconst 0, 1), (1, .istore_n 1, 1), (2, .iload_n 1, 1), (3, .aload_n 0, 1), (4, .getfield 37, 3), (7, .if_icmp .ge 19, 3), (10, .aload_n 0, 1), (11, .getfield 23, 3), (14, .iload_n 1, 1), (15, .aaload, 1), (16, .iconst 0, 1), (17, .putfield 93, 3), (20, .iinc 1 1, 3), (23, .goto (-21), 3), (26, .return_, 1)]
set_option maxRecDepth 100000 in
theorem gv_138_0 : g_okc cX4_mendBrakes gi_138_0 = true := by decide +kernel
def gi_138 : List (List (Nat × Instr × Nat)) := [gi_138_0]
theorem gv_138 : ∀ ch ∈ gi_138, g_okc cX4_mendBrakes ch = true := List.forall_mem_cons.mpr ⟨gv_138_0, fun _ h => absurd h List.not_mem_nil⟩
def gi_139_0 : List (Nat × Instr × Nat) := [(0, .aload_n 0, 1), (1, .getfield 16, 3), (4, .aload_n 0, 1), (5, .getfield 10, 3), (8, .invokevirtual 288, 3), (11, .aload_n 0, 1), (12, .getfield 16, 3), (15, .invokevirtual 343, 3), (18, .aload_n 0, 1), (19, .getfield 16, 3), (22, .iload_n 1, 1), (23, .invokevirtual 191, 3), (26, .iconst 1, 1), (27, .istore_n 2, 1), (28, .iload_n 2, 1), (29, .sipush 200, 3)]
set_option maxRecDepth 100000 in
theorem gv_139_0 : g_okc cX5_rehearse gi_139_0 = true := by decide +kernel
def gi_139_1 : List (Nat × Instr × Nat) := [(32, .if_icmp .gt 47, 3), (35, .aload_n 0, 1), (36, .getfield 16, 3), (39, .invokevirtual 220, 3), (42, .aload_n 0, 1), (43, .getfield 16, 3), (46, .getfield 198, 3), (49, .ifCond .eq 5, 3), (52, .iconst (-1), 1), (53, .ireturn, 1), (54, .aload_n 0, 1), (55, .getfield 16, 3), (58, .getfield 258, 3), (61, .aload_n 0, 1), (62, .getfield 10, 3)]
set_option maxRecDepth 100000 in
theorem gv_139_1 : g_okc cX5_rehearse gi_139_1 = true := by decide +kernel
def gi_139_2 : List (Nat × Instr × Nat) := [(65, .getfield 258, 3), (68, .if_icmp .eq 5, 3), (71, .iload_n 2, 1), (72, .ireturn, 1), (73, .iinc 2 1, 3), (76, .goto (-48), 3), (79, .iconst (-1), 1), (80, .ireturn, 1)]
set_option maxRecDepth 100000 in
theorem gv_139_2 : g_okc cX5_rehearse gi_139_2 = true := by decide +kernel
def gi_139 : List (List (Nat × Instr × Nat)) := [gi_139_0, gi_139_1, gi_139_2]
theorem gv_139 : ∀ ch ∈ gi_139, g_okc cX5_rehearse ch = true := List.forall_mem_cons.mpr ⟨gv_139_0, List.forall_mem_cons.mpr ⟨gv_139_1, List.forall_mem_cons.mpr ⟨gv_139_2, fun _ h => absurd h List.not_mem_nil⟩⟩⟩
def gi_140_0 : List (Nat × Instr × Nat) := [(0, .aload_n 0, 1), (1, .iload_n 1, 1), (2, .invokevirtual 279, 3), (5, .ireturn, 1)]
set_option maxRecDepth 100000 in
theorem gv_140_0 : g_okc cX5_secondsFor gi_140_0 = true := by decide +kernel
def gi_140 : List (List (Nat × Instr × Nat)) := [gi_140_0]
theorem gv_140 : ∀ ch ∈ gi_140, g_okc cX5_secondsFor ch = true := List.forall_mem_cons.mpr ⟨gv_140_0, fun _ h => absurd h List.not_mem_nil⟩
def gi_141_0 : List (Nat × Instr × Nat) := [(0, .aload_n 2, 1), (1, .iconst 0, 1), (2, .aload_n 0, 1), (3, .iload_n 1, 1), (4, .invokevirtual 82, 3), (7, .i2l, 1), (8, .lastore, 1), (9, .goto 6, 3), (12, .astore_n 3, 1), (13, .iconst 1, 1), (14, .ireturn, 1), (15, .iconst 0, 1), (16, .ireturn, 1)]
set_option maxRecDepth 100000 in
theorem gv_141_0 : g_okc cL_secondsFor gi_141_0 = true := by decide +kernel
def gi_141 : List (List (Nat × Instr × Nat)) := [gi_141_0]
theorem gv_141 : ∀ ch ∈ gi_141, g_okc cL_secondsFor ch = true := List.forall_mem_cons.mpr ⟨gv_141_0, fun _ h => absurd h List.not_mem_nil⟩
def gi_142_0 : List (Nat × Instr × Nat) := [(0, .new 13, 3), (3, .dup, 1), (4, .invokespecial 35, 3), (7, .astore_n 1, 1), (8, .aload_n 0, 1), (9, .getfield 12, 3), (12, .invokevirtual 36, 3), (15, .astore_n 2, 1), (16, .aload_n 2, 1), (17, .invokeinterface 40 1, 5), (22, .ifCond .eq 31, 3), (25, .aload_n 2, 1), (26, .invokeinterface 46 1, 5), (31, .checkcast 50, 3)]
set_option maxRecDepth 100000 in
theorem gv_142_0 : g_okc cX6_copy gi_142_0 = true := by decide +kernel
def gi_142_1 : List (Nat × Instr × Nat) := [(34, .astore_n 3, 1), (35, .aload_n 1, 1), (36, .getfield 12, 3), (39, .aload_n 3, 1), (40, .invokevirtual 51, 3), (43, .checkcast 50, 3), (46, .invokevirtual 54, 3), (49, .pop, 1), (50, .goto (-34), 3), (53, .aload_n 0, 1), (54, .getfield 18, 3), (57, .invokevirtual 36, 3), (60, .astore_n 2, 1), (61, .aload_n 2, 1), (62, .invokeinterface 40 1, 5)]
set_option maxRecDepth 100000 in
theorem gv_142_1 : g_okc cX6_copy gi_142_1 = true := by decide +kernel
def gi_142_2 : List (Nat × Instr × Nat) := [(67, .ifCond .eq 80, 3), (70, .aload_n 2, 1), (71, .invokeinterface 46 1, 5), (76, .checkcast 9, 3), (79, .astore_n 3, 1), (80, .new 9, 3), (83, .dup, 1), (84, .invokespecial 11, 3), (87, .astore 4, 2), (89, .aload_n 3, 1), (90, .invokevirtual 36, 3), (93, .astore 5, 2), (95, .aload 5, 2)]
set_option maxRecDepth 100000 in
theorem gv_142_2 : g_okc cX6_copy gi_142_2 = true := by decide +kernel
def gi_142_3 : List (Nat × Instr × Nat) := [(97, .invokeinterface 40 1, 5), (102, .ifCond .eq 32, 3), (105, .aload 5, 2), (107, .invokeinterface 46 1, 5), (112, .checkcast 50, 3), (115, .astore 6, 2), (117, .aload 4, 2), (119, .aload 6, 2), (121, .invokevirtual 51, 3), (124, .checkcast 50, 3), (127, .invokevirtual 54, 3)]
set_option maxRecDepth 100000 in
theorem gv_142_3 : g_okc cX6_copy gi_142_3 = true := by decide +kernel
def gi_142_4 : List (Nat × Instr × Nat) := [(130, .pop, 1), (131, .goto (-36), 3), (134, .aload_n 1, 1), (135, .getfield 18, 3), (138, .aload 4, 2), (140, .invokevirtual 54, 3), (143, .pop, 1), (144, .goto (-83), 3), (147, .aload_n 0, 1), (148, .getfield 21, 3), (151, .iconst 0, 1), (152, .aload_n 1, 1), (153, .getfield 21, 3), (156, .iconst 0, 1), (157, .bipush 6, 2), (159, .invokestatic 58, 3)]
set_option maxRecDepth 100000 in
theorem gv_142_4 : g_okc cX6_copy gi_142_4 = true := by decide +kernel
def gi_142_5 : List (Nat × Instr × Nat) := [(162, .aload_n 1, 1), (163, .aload_n 0, 1), (164, .getfield 25, 3), (167, .putfield 25, 3), (170, .aload_n 1, 1), (171, .aload_n 0, 1), (172, .getfield 29, 3), (175, .putfield 29, 3), (178, .aload_n 1, 1), (179, .aload_n 0, 1), (180, .getfield 64, 3), (183, .putfield 64, 3), (186, .aload_n 1, 1), (187, .aload_n 0, 1), (188, .getfield 68, 3), (191, .putfield 68, 3)]
set_option maxRecDepth 100000 in
theorem gv_142_5 : g_okc cX6_copy gi_142_5 = true := by decide +kernel
def gi_142_6 : List (Nat × Instr × Nat) := [(194, .aload_n 1, 1), (195, .areturn, 1)]
set_option maxRecDepth 100000 in
theorem gv_142_6 : g_okc cX6_copy gi_142_6 = true := by decide +kernel
def gi_142 : List (List (Nat × Instr × Nat)) := [gi_142_0, gi_142_1, gi_142_2, gi_142_3, gi_142_4, gi_142_5, gi_142_6]
theorem gv_142 : ∀ ch ∈ gi_142, g_okc cX6_copy ch = true := List.forall_mem_cons.mpr ⟨gv_142_0, List.forall_mem_cons.mpr ⟨gv_142_1, List.forall_mem_cons.mpr ⟨gv_142_2, List.forall_mem_cons.mpr ⟨gv_142_3, List.forall_mem_cons.mpr ⟨gv_142_4, List.forall_mem_cons.mpr ⟨gv_142_5, List.forall_mem_cons.mpr ⟨gv_142_6, fun _ h => absurd h List.not_mem_nil⟩⟩⟩⟩⟩⟩⟩
def gi_143_0 : List (Nat × Instr × Nat) := [(0, .aload_n 0, 1), (1, .getfield 19, 3), (4, .invokevirtual 157, 3), (7, .astore_n 2, 1), (8, .aload_n 2, 1), (9, .getfield 27, 3), (12, .invokevirtual 67, 3), (15, .astore_n 3, 1), (16, .aload_n 3, 1), (17, .invokeinterface 71 1, 5), (22, .ifCond .eq 23, 3), (25, .aload_n 3, 1), (26, .invokeinterface 77 1, 5), (31, .checkcast 81, 3)]
set_option maxRecDepth 100000 in
theorem gv_143_0 : g_okc cX7_played gi_143_0 = true := by decide +kernel
def gi_143_1 : List (Nat × Instr × Nat) := [(34, .astore 4, 2), (36, .aload 4, 2), (38, .bipush 6, 2), (40, .iconst 0, 1), (41, .iastore, 1), (42, .goto (-26), 3), (45, .aload_n 2, 1), (46, .iload_n 1, 1), (47, .invokevirtual 105, 3), (50, .aload_n 2, 1), (51, .getfield 118, 3), (54, .sipush 200, 3), (57, .if_icmp .ge 25, 3), (60, .aload_n 2, 1), (61, .getfield 133, 3)]
set_option maxRecDepth 100000 in
theorem gv_143_1 : g_okc cX7_played gi_143_1 = true := by decide +kernel
def gi_143_2 : List (Nat × Instr × Nat) := [(64, .ifCond .ne 18, 3), (67, .aload_n 2, 1), (68, .getfield 108, 3), (71, .ifCond .ne 11, 3), (74, .aload_n 2, 1), (75, .invokevirtual 121, 3), (78, .pop, 1), (79, .goto (-29), 3), (82, .aload_n 2, 1), (83, .areturn, 1)]
set_option maxRecDepth 100000 in
theorem gv_143_2 : g_okc cX7_played gi_143_2 = true := by decide +kernel
def gi_143 : List (List (Nat × Instr × Nat)) := [gi_143_0, gi_143_1, gi_143_2]
theorem gv_143 : ∀ ch ∈ gi_143, g_okc cX7_played ch = true := List.forall_mem_cons.mpr ⟨gv_143_0, List.forall_mem_cons.mpr ⟨gv_143_1, List.forall_mem_cons.mpr ⟨gv_143_2, fun _ h => absurd h List.not_mem_nil⟩⟩⟩
def gi_144_0 : List (Nat × Instr × Nat) := [(0, .aload_n 0, 1), (1, .iload_n 1, 1), (2, .invokevirtual 161, 3), (5, .astore_n 2, 1), (6, .aload_n 2, 1), (7, .getfield 133, 3), (10, .ifCond .le 18, 3), (13, .aload_n 2, 1), (14, .getfield 165, 3), (17, .iconst (-1), 1), (18, .if_icmp .ne 10, 3), (21, .aload_n 2, 1), (22, .getfield 118, 3), (25, .goto 4, 3), (28, .iconst (-1), 1), (29, .ireturn, 1)]
set_option maxRecDepth 100000 in
theorem gv_144_0 : g_okc cX7_secondsNow gi_144_0 = true := by decide +kernel
def gi_144 : List (List (Nat × Instr × Nat)) := [gi_144_0]
theorem gv_144 : ∀ ch ∈ gi_144, g_okc cX7_secondsNow ch = true := List.forall_mem_cons.mpr ⟨gv_144_0, fun _ h => absurd h List.not_mem_nil⟩
def gi_145_0 : List (Nat × Instr × Nat) := [(0, .aload_n 0, 1), (1, .iconst 0, 1), (2, .putfield 23, 3), (5, .aload_n 0, 1), (6, .iload_n 1, 1), (7, .invokevirtual 53, 3), (10, .ifCond .eq 11, 3), (13, .aload_n 0, 1), (14, .iload_n 1, 1), (15, .invokevirtual 168, 3), (18, .goto 8, 3), (21, .aload_n 0, 1), (22, .iconst 1, 1), (23, .invokevirtual 41, 3), (26, .ireturn, 1)]
set_option maxRecDepth 100000 in
theorem gv_145_0 : g_okc cX7_secondsFor gi_145_0 = true := by decide +kernel
def gi_145 : List (List (Nat × Instr × Nat)) := [gi_145_0]
theorem gv_145 : ∀ ch ∈ gi_145, g_okc cX7_secondsFor ch = true := List.forall_mem_cons.mpr ⟨gv_145_0, fun _ h => absurd h List.not_mem_nil⟩
def gi_146_0 : List (Nat × Instr × Nat) := [(0, .aload_n 0, 1), (1, .iload_n 1, 1), (2, .invokevirtual 279, 3), (5, .pop, 1), (6, .aload_n 0, 1), (7, .getfield 16, 3), (10, .getfield 283, 3), (13, .ireturn, 1)]
set_option maxRecDepth 100000 in
theorem gv_146_0 : g_okc cX5_stopsAt gi_146_0 = true := by decide +kernel
def gi_146 : List (List (Nat × Instr × Nat)) := [gi_146_0]
theorem gv_146 : ∀ ch ∈ gi_146, g_okc cX5_stopsAt ch = true := List.forall_mem_cons.mpr ⟨gv_146_0, fun _ h => absurd h List.not_mem_nil⟩
def gi_147_0 : List (Nat × Instr × Nat) := [(0, .aload_n 2, 1), (1, .iconst 0, 1), (2, .aload_n 0, 1), (3, .iload_n 1, 1), (4, .invokevirtual 85, 3), (7, .i2l, 1), (8, .lastore, 1), (9, .goto 6, 3), (12, .astore_n 3, 1), (13, .iconst 1, 1), (14, .ireturn, 1), (15, .iconst 0, 1), (16, .ireturn, 1)]
set_option maxRecDepth 100000 in
theorem gv_147_0 : g_okc cL_stopsAt gi_147_0 = true := by decide +kernel
def gi_147 : List (List (Nat × Instr × Nat)) := [gi_147_0]
theorem gv_147 : ∀ ch ∈ gi_147, g_okc cL_stopsAt ch = true := List.forall_mem_cons.mpr ⟨gv_147_0, fun _ h => absurd h List.not_mem_nil⟩
def gi_148_0 : List (Nat × Instr × Nat) := [(0, .aload_n 0, 1), (1, .iconst 0, 1), (2, .putfield 23, 3), (5, .aload_n 0, 1), (6, .iload_n 1, 1), (7, .invokevirtual 53, 3), (10, .ifCond .eq 14, 3), (13, .aload_n 0, 1), (14, .iload_n 1, 1), (15, .invokevirtual 161, 3), (18, .getfield 165, 3), (21, .goto 8, 3), (24, .aload_n 0, 1), (25, .iconst 1, 1), (26, .invokevirtual 41, 3), (29, .ireturn, 1)]
set_option maxRecDepth 100000 in
theorem gv_148_0 : g_okc cX7_stopsAt gi_148_0 = true := by decide +kernel
def gi_148 : List (List (Nat × Instr × Nat)) := [gi_148_0]
theorem gv_148 : ∀ ch ∈ gi_148, g_okc cX7_stopsAt ch = true := List.forall_mem_cons.mpr ⟨gv_148_0, fun _ h => absurd h List.not_mem_nil⟩
def gi_149_0 : List (Nat × Instr × Nat) := [(0, .iload_n 1, 1), (1, .iconst 1, 1), (2, .if_icmp .lt 9, 3), (5, .iload_n 1, 1), (6, .bipush 60, 2), (8, .if_icmp .le 14, 3), (11, .new 30, 3), (14, .dup, 1), (15, .ldc_w 286, 3), (18, .invokespecial 34, 3), (21, .athrow, 1), (22, .aload_n 0, 1), (23, .getfield 16, 3), (26, .aload_n 0, 1), (27, .getfield 10, 3), (30, .invokevirtual 288, 3)]
set_option maxRecDepth 100000 in
theorem gv_149_0 : g_okc cX5_wouldHurt gi_149_0 = true := by decide +kernel
def gi_149_1 : List (Nat × Instr × Nat) := [(33, .iconst 0, 1), (34, .istore_n 2, 1), (35, .iload_n 2, 1), (36, .iload_n 1, 1), (37, .if_icmp .ge 16, 3), (40, .aload_n 0, 1), (41, .getfield 16, 3), (44, .invokevirtual 220, 3), (47, .iinc 2 1, 3), (50, .goto (-15), 3), (53, .aload_n 0, 1), (54, .getfield 16, 3), (57, .getfield 270, 3), (60, .aload_n 0, 1), (61, .getfield 10, 3)]
set_option maxRecDepth 100000 in
theorem gv_149_1 : g_okc cX5_wouldHurt gi_149_1 = true := by decide +kernel
def gi_149_2 : List (Nat × Instr × Nat) := [(64, .getfield 270, 3), (67, .isub, 1), (68, .ireturn, 1)]
set_option maxRecDepth 100000 in
theorem gv_149_2 : g_okc cX5_wouldHurt gi_149_2 = true := by decide +kernel
def gi_149 : List (List (Nat × Instr × Nat)) := [gi_149_0, gi_149_1, gi_149_2]
theorem gv_149 : ∀ ch ∈ gi_149, g_okc cX5_wouldHurt ch = true := List.forall_mem_cons.mpr ⟨gv_149_0, List.forall_mem_cons.mpr ⟨gv_149_1, List.forall_mem_cons.mpr ⟨gv_149_2, fun _ h => absurd h List.not_mem_nil⟩⟩⟩
def gi_150_0 : List (Nat × Instr × Nat) := [(0, .aload_n 2, 1), (1, .iconst 0, 1), (2, .aload_n 0, 1), (3, .iload_n 1, 1), (4, .invokevirtual 88, 3), (7, .i2l, 1), (8, .lastore, 1), (9, .goto 6, 3), (12, .astore_n 3, 1), (13, .iconst 1, 1), (14, .ireturn, 1), (15, .iconst 0, 1), (16, .ireturn, 1)]
set_option maxRecDepth 100000 in
theorem gv_150_0 : g_okc cL_wouldHurt gi_150_0 = true := by decide +kernel
def gi_150 : List (List (Nat × Instr × Nat)) := [gi_150_0]
theorem gv_150 : ∀ ch ∈ gi_150, g_okc cL_wouldHurt ch = true := List.forall_mem_cons.mpr ⟨gv_150_0, fun _ h => absurd h List.not_mem_nil⟩
def gi_151_0 : List (Nat × Instr × Nat) := [(0, .aload_n 0, 1), (1, .getfield 19, 3), (4, .invokevirtual 157, 3), (7, .astore_n 2, 1), (8, .iconst 0, 1), (9, .istore_n 3, 1), (10, .iload_n 3, 1), (11, .iload_n 1, 1), (12, .if_icmp .ge 14, 3), (15, .aload_n 2, 1), (16, .invokevirtual 121, 3), (19, .pop, 1), (20, .iinc 3 1, 3), (23, .goto (-13), 3), (26, .aload_n 2, 1), (27, .getfield 145, 3), (30, .ireturn, 1)]
set_option maxRecDepth 100000 in
theorem gv_151_0 : g_okc cX7_hurtNow gi_151_0 = true := by decide +kernel
def gi_151 : List (List (Nat × Instr × Nat)) := [gi_151_0]
theorem gv_151 : ∀ ch ∈ gi_151, g_okc cX7_hurtNow ch = true := List.forall_mem_cons.mpr ⟨gv_151_0, fun _ h => absurd h List.not_mem_nil⟩
def gi_152_0 : List (Nat × Instr × Nat) := [(0, .aload_n 0, 1), (1, .iconst 0, 1), (2, .putfield 23, 3), (5, .iload_n 1, 1), (6, .iconst 1, 1), (7, .bipush 60, 2), (9, .invokestatic 34, 3), (12, .ifCond .eq 11, 3), (15, .aload_n 0, 1), (16, .iload_n 1, 1), (17, .invokevirtual 171, 3), (20, .goto 8, 3), (23, .aload_n 0, 1), (24, .iconst 1, 1), (25, .invokevirtual 41, 3), (28, .ireturn, 1)]
set_option maxRecDepth 100000 in
theorem gv_152_0 : g_okc cX7_wouldHurt gi_152_0 = true := by decide +kernel
def gi_152 : List (List (Nat × Instr × Nat)) := [gi_152_0]
theorem gv_152 : ∀ ch ∈ gi_152, g_okc cX7_wouldHurt ch = true := List.forall_mem_cons.mpr ⟨gv_152_0, fun _ h => absurd h List.not_mem_nil⟩
def gi_153_0 : List (Nat × Instr × Nat) := [(0, .iload_n 0, 1), (1, .iload_n 1, 1), (2, .ishr, 1), (3, .iconst 1, 1), (4, .iand, 1), (5, .iconst 1, 1), (6, .if_icmp .ne 7, 3), (9, .iconst 1, 1), (10, .goto 4, 3), (13, .iconst 0, 1), (14, .ireturn, 1)]
set_option maxRecDepth 100000 in
theorem gv_153_0 : g_okc cX5_isIn gi_153_0 = true := by decide +kernel
def gi_153 : List (List (Nat × Instr × Nat)) := [gi_153_0]
theorem gv_153 : ∀ ch ∈ gi_153, g_okc cX5_isIn ch = true := List.forall_mem_cons.mpr ⟨gv_153_0, fun _ h => absurd h List.not_mem_nil⟩
def gi_154_0 : List (Nat × Instr × Nat) := [(0, .iconst 0, 1), (1, .istore 4, 2), (3, .iload 4, 2), (5, .iload_n 1, 1), (6, .if_icmp .ge 56, 3), (9, .aload_n 0, 1), (10, .getfield 21, 3), (13, .iload 4, 2), (15, .aaload, 1), (16, .getfield 79, 3), (19, .aload_n 0, 1), (20, .getfield 21, 3), (23, .iload_n 1, 1), (24, .aaload, 1), (25, .getfield 79, 3), (28, .iadd, 1), (29, .istore 5, 2), (31, .iload_n 3, 1)]
set_option maxRecDepth 100000 in
theorem gv_154_0 : g_okc cX5_isBehindFormer gi_154_0 = true := by decide +kernel
def gi_154_1 : List (Nat × Instr × Nat) := [(32, .iload 4, 2), (34, .invokestatic 294, 3), (37, .ifCond .eq 19, 3), (40, .iload_n 2, 1), (41, .aload_n 0, 1), (42, .getfield 26, 3), (45, .iload 4, 2), (47, .iaload, 1), (48, .isub, 1), (49, .iload 5, 2), (51, .if_icmp .gt 5, 3), (54, .iconst 0, 1), (55, .ireturn, 1), (56, .iinc 4 1, 3), (59, .goto (-56), 3), (62, .iconst 1, 1), (63, .ireturn, 1)]
set_option maxRecDepth 100000 in
theorem gv_154_1 : g_okc cX5_isBehindFormer gi_154_1 = true := by decide +kernel
def gi_154 : List (List (Nat × Instr × Nat)) := [gi_154_0, gi_154_1]
theorem gv_154 : ∀ ch ∈ gi_154, g_okc cX5_isBehindFormer ch = true := List.forall_mem_cons.mpr ⟨gv_154_0, List.forall_mem_cons.mpr ⟨gv_154_1, fun _ h => absurd h List.not_mem_nil⟩⟩
end
section
def gi_155_0 : List (Nat × Instr × Nat) := [(0, .iconst 0, 1), (1, .istore_n 3, 1), (2, .iload_n 3, 1), (3, .aload_n 0, 1), (4, .getfield 10, 3), (7, .getfield 37, 3), (10, .if_icmp .ge 45, 3), (13, .aload_n 0, 1), (14, .getfield 21, 3), (17, .iload_n 1, 1), (18, .aaload, 1), (19, .getfield 73, 3), (22, .aload_n 0, 1), (23, .getfield 10, 3), (26, .getfield 46, 3), (29, .iload_n 3, 1), (30, .aaload, 1), (31, .getfield 56, 3)]
set_option maxRecDepth 100000 in
theorem gv_155_0 : g_okc cX5_smallestPlace gi_155_0 = true := by decide +kernel
def gi_155_1 : List (Nat × Instr × Nat) := [(34, .if_icmp .gt 15, 3), (37, .aload_n 0, 1), (38, .iload_n 1, 1), (39, .iload_n 3, 1), (40, .iload_n 2, 1), (41, .invokevirtual 346, 3), (44, .ifCond .eq 5, 3), (47, .iload_n 3, 1), (48, .ireturn, 1), (49, .iinc 3 1, 3), (52, .goto (-50), 3), (55, .iconst (-1), 1), (56, .ireturn, 1)]
set_option maxRecDepth 100000 in
theorem gv_155_1 : g_okc cX5_smallestPlace gi_155_1 = true := by decide +kernel
def gi_155 : List (List (Nat × Instr × Nat)) := [gi_155_0, gi_155_1]
theorem gv_155 : ∀ ch ∈ gi_155, g_okc cX5_smallestPlace ch = true := List.forall_mem_cons.mpr ⟨gv_155_0, List.forall_mem_cons.mpr ⟨gv_155_1, fun _ h => absurd h List.not_mem_nil⟩⟩
def gi_156_0 : List (Nat × Instr × Nat) := [(0, .iload_n 1, 1), (1, .aload_n 0, 1), (2, .getfield 68, 3), (5, .iushr, 1), (6, .ifCond .eq 14, 3), (9, .new 30, 3), (12, .dup, 1), (13, .ldc_w 292, 3), (16, .invokespecial 34, 3), (19, .athrow, 1), (20, .iconst 0, 1), (21, .istore_n 2, 1), (22, .iconst 0, 1), (23, .istore_n 3, 1), (24, .iload_n 3, 1), (25, .aload_n 0, 1), (26, .getfield 68, 3), (29, .if_icmp .ge 48, 3)]
set_option maxRecDepth 100000 in
theorem gv_156_0 : g_okc cX5_fits gi_156_0 = true := by decide +kernel
def gi_156_1 : List (Nat × Instr × Nat) := [(32, .iload_n 1, 1), (33, .iload_n 3, 1), (34, .invokestatic 294, 3), (37, .ifCond .eq 34, 3), (40, .aload_n 0, 1), (41, .iload_n 3, 1), (42, .iload_n 1, 1), (43, .invokevirtual 298, 3), (46, .istore 4, 2), (48, .iload 4, 2), (50, .iconst (-1), 1), (51, .if_icmp .ne 5, 3), (54, .iconst 0, 1), (55, .ireturn, 1), (56, .aload_n 0, 1), (57, .getfield 26, 3), (60, .iload_n 3, 1), (61, .iload 4, 2), (63, .iastore, 1)]
set_option maxRecDepth 100000 in
theorem gv_156_1 : g_okc cX5_fits gi_156_1 = true := by decide +kernel
def gi_156_2 : List (Nat × Instr × Nat) := [(64, .iload_n 2, 1), (65, .iconst 1, 1), (66, .iload 4, 2), (68, .ishl, 1), (69, .ior, 1), (70, .istore_n 2, 1), (71, .iinc 3 1, 3), (74, .goto (-50), 3), (77, .iload_n 2, 1), (78, .ireturn, 1)]
set_option maxRecDepth 100000 in
theorem gv_156_2 : g_okc cX5_fits gi_156_2 = true := by decide +kernel
def gi_156 : List (List (Nat × Instr × Nat)) := [gi_156_0, gi_156_1, gi_156_2]
theorem gv_156 : ∀ ch ∈ gi_156, g_okc cX5_fits ch = true := List.forall_mem_cons.mpr ⟨gv_156_0, List.forall_mem_cons.mpr ⟨gv_156_1, List.forall_mem_cons.mpr ⟨gv_156_2, fun _ h => absurd h List.not_mem_nil⟩⟩⟩
def gi_157_0 : List (Nat × Instr × Nat) := [(0, .aload_n 2, 1), (1, .iconst 0, 1), (2, .aload_n 0, 1), (3, .iload_n 1, 1), (4, .invokevirtual 91, 3), (7, .i2l, 1), (8, .lastore, 1), (9, .goto 6, 3), (12, .astore_n 3, 1), (13, .iconst 1, 1), (14, .ireturn, 1), (15, .iconst 0, 1), (16, .ireturn, 1)]
set_option maxRecDepth 100000 in
theorem gv_157_0 : g_okc cL_fits gi_157_0 = true := by decide +kernel
def gi_157 : List (List (Nat × Instr × Nat)) := [gi_157_0]
theorem gv_157 : ∀ ch ∈ gi_157, g_okc cL_fits ch = true := List.forall_mem_cons.mpr ⟨gv_157_0, fun _ h => absurd h List.not_mem_nil⟩
def gi_158_0 : List (Nat × Instr × Nat) := [(0, .aload_n 0, 1), (1, .getfield 10, 3), (4, .iload_n 3, 1), (5, .invokevirtual 60, 3), (8, .checkcast 81, 3), (11, .astore 5, 2), (13, .aload 5, 2), (15, .iconst 0, 1), (16, .iaload, 1), (17, .aload_n 0, 1), (18, .getfield 19, 3), (21, .getfield 27, 3), (24, .iload 4, 2), (26, .invokevirtual 60, 3), (29, .checkcast 81, 3)]
set_option maxRecDepth 100000 in
theorem gv_158_0 : g_okc cX7_canLie gi_158_0 = true := by decide +kernel
def gi_158_1 : List (Nat × Instr × Nat) := [(32, .iconst 1, 1), (33, .iaload, 1), (34, .if_icmp .le 5, 3), (37, .iconst 0, 1), (38, .ireturn, 1), (39, .iconst 0, 1), (40, .istore 6, 2), (42, .iload 6, 2), (44, .iload_n 3, 1), (45, .if_icmp .ge 50, 3), (48, .iload_n 1, 1), (49, .iload 6, 2), (51, .ishr, 1), (52, .iconst 1, 1), (53, .iand, 1), (54, .iconst 1, 1), (55, .if_icmp .ne 34, 3), (58, .iload 4, 2), (60, .aload_n 2, 1), (61, .iload 6, 2), (63, .iaload, 1)]
set_option maxRecDepth 100000 in
theorem gv_158_1 : g_okc cX7_canLie gi_158_1 = true := by decide +kernel
def gi_158_2 : List (Nat × Instr × Nat) := [(64, .isub, 1), (65, .aload 5, 2), (67, .iconst 2, 1), (68, .iaload, 1), (69, .aload_n 0, 1), (70, .getfield 10, 3), (73, .iload 6, 2), (75, .invokevirtual 60, 3), (78, .checkcast 81, 3), (81, .iconst 2, 1), (82, .iaload, 1), (83, .iadd, 1), (84, .if_icmp .gt 5, 3), (87, .iconst 0, 1), (88, .ireturn, 1), (89, .iinc 6 1, 3), (92, .goto (-50), 3), (95, .iconst 1, 1)]
set_option maxRecDepth 100000 in
theorem gv_158_2 : g_okc cX7_canLie gi_158_2 = true := by decide +kernel
def gi_158_3 : List (Nat × Instr × Nat) := [(96, .ireturn, 1)]
set_option maxRecDepth 100000 in
theorem gv_158_3 : g_okc cX7_canLie gi_158_3 = true := by decide +kernel
def gi_158 : List (List (Nat × Instr × Nat)) := [gi_158_0, gi_158_1, gi_158_2, gi_158_3]
theorem gv_158 : ∀ ch ∈ gi_158, g_okc cX7_canLie ch = true := List.forall_mem_cons.mpr ⟨gv_158_0, List.forall_mem_cons.mpr ⟨gv_158_1, List.forall_mem_cons.mpr ⟨gv_158_2, List.forall_mem_cons.mpr ⟨gv_158_3, fun _ h => absurd h List.not_mem_nil⟩⟩⟩⟩
def gi_159_0 : List (Nat × Instr × Nat) := [(0, .bipush 10, 2), (2, .newarray .int, 2), (4, .astore_n 2, 1), (5, .iconst 0, 1), (6, .istore_n 3, 1), (7, .iconst 0, 1), (8, .istore 4, 2), (10, .iconst 0, 1), (11, .istore 5, 2), (13, .iload 5, 2), (15, .aload_n 0, 1), (16, .getfield 10, 3), (19, .invokevirtual 30, 3), (22, .if_icmp .ge 95, 3), (25, .iload_n 1, 1), (26, .iload 5, 2), (28, .ishr, 1), (29, .iconst 1, 1), (30, .iand, 1), (31, .ifCond .ne 6, 3)]
set_option maxRecDepth 100000 in
theorem gv_159_0 : g_okc cX7_fitsNow gi_159_0 = true := by decide +kernel
def gi_159_1 : List (Nat × Instr × Nat) := [(34, .goto 77, 3), (37, .iload 4, 2), (39, .istore 6, 2), (41, .iload 6, 2), (43, .aload_n 0, 1), (44, .getfield 19, 3), (47, .getfield 27, 3), (50, .invokevirtual 30, 3), (53, .if_icmp .ge 22, 3), (56, .aload_n 0, 1), (57, .iload_n 1, 1), (58, .aload_n 2, 1), (59, .iload 5, 2), (61, .iload 6, 2), (63, .invokevirtual 174, 3)]
set_option maxRecDepth 100000 in
theorem gv_159_1 : g_okc cX7_fitsNow gi_159_1 = true := by decide +kernel
def gi_159_2 : List (Nat × Instr × Nat) := [(66, .ifCond .ne 9, 3), (69, .iinc 6 1, 3), (72, .goto (-31), 3), (75, .iload 6, 2), (77, .aload_n 0, 1), (78, .getfield 19, 3), (81, .getfield 27, 3), (84, .invokevirtual 30, 3), (87, .if_icmp .ne 5, 3), (90, .iconst 0, 1), (91, .ireturn, 1), (92, .aload_n 2, 1), (93, .iload 5, 2), (95, .iload 6, 2)]
set_option maxRecDepth 100000 in
theorem gv_159_2 : g_okc cX7_fitsNow gi_159_2 = true := by decide +kernel
def gi_159_3 : List (Nat × Instr × Nat) := [(97, .iastore, 1), (98, .iload_n 3, 1), (99, .iconst 1, 1), (100, .iload 6, 2), (102, .ishl, 1), (103, .ior, 1), (104, .istore_n 3, 1), (105, .iload 6, 2), (107, .iconst 1, 1), (108, .iadd, 1), (109, .istore 4, 2), (111, .iinc 5 1, 3), (114, .goto (-101), 3), (117, .iload_n 3, 1), (118, .ireturn, 1)]
set_option maxRecDepth 100000 in
theorem gv_159_3 : g_okc cX7_fitsNow gi_159_3 = true := by decide +kernel
def gi_159 : List (List (Nat × Instr × Nat)) := [gi_159_0, gi_159_1, gi_159_2, gi_159_3]
theorem gv_159 : ∀ ch ∈ gi_159, g_okc cX7_fitsNow ch = true := List.forall_mem_cons.mpr ⟨gv_159_0, List.forall_mem_cons.mpr ⟨gv_159_1, List.forall_mem_cons.mpr ⟨gv_159_2, List.forall_mem_cons.mpr ⟨gv_159_3, fun _ h => absurd h List.not_mem_nil⟩⟩⟩⟩
def gi_160_0 : List (Nat × Instr × Nat) := [(0, .aload_n 0, 1), (1, .iconst 0, 1), (2, .putfield 23, 3), (5, .iload_n 1, 1), (6, .iconst 0, 1), (7, .iconst 1, 1), (8, .aload_n 0, 1), (9, .getfield 10, 3), (12, .invokevirtual 30, 3), (15, .ishl, 1), (16, .iconst 1, 1), (17, .isub, 1), (18, .invokestatic 34, 3), (21, .ifCond .eq 11, 3), (24, .aload_n 0, 1), (25, .iload_n 1, 1), (26, .invokevirtual 178, 3), (29, .goto 8, 3)]
set_option maxRecDepth 100000 in
theorem gv_160_0 : g_okc cX7_fits gi_160_0 = true := by decide +kernel
def gi_160_1 : List (Nat × Instr × Nat) := [(32, .aload_n 0, 1), (33, .iconst 1, 1), (34, .invokevirtual 41, 3), (37, .ireturn, 1)]
set_option maxRecDepth 100000 in
theorem gv_160_1 : g_okc cX7_fits gi_160_1 = true := by decide +kernel
def gi_160 : List (List (Nat × Instr × Nat)) := [gi_160_0, gi_160_1]
theorem gv_160 : ∀ ch ∈ gi_160, g_okc cX7_fits ch = true := List.forall_mem_cons.mpr ⟨gv_160_0, List.forall_mem_cons.mpr ⟨gv_160_1, fun _ h => absurd h List.not_mem_nil⟩⟩
def gi_161_0 : List (Nat × Instr × Nat) := [(0, .lload_n 1, 1), (1, .lstore 4, 2), (3, .aload_n 0, 1), (4, .getfield 10, 3), (7, .iload_n 3, 1), (8, .invokevirtual 98, 3), (11, .getfield 117, 3), (14, .istore 6, 2), (16, .iconst 0, 1), (17, .istore 7, 2), (19, .iload 7, 2), (21, .iload 6, 2), (23, .if_icmp .ge 44, 3), (26, .iconst 0, 1), (27, .istore 8, 2), (29, .iload 8, 2), (31, .bipush 6, 2)]
set_option maxRecDepth 100000 in
theorem gv_161_0 : g_okc cX5_digestOfMoves gi_161_0 = true := by decide +kernel
def gi_161_1 : List (Nat × Instr × Nat) := [(33, .if_icmp .ge 28, 3), (36, .lload 4, 2), (38, .ldc2_w 304, 3), (41, .lmul, 1), (42, .aload_n 0, 1), (43, .iload_n 3, 1), (44, .iload 7, 2), (46, .iload 8, 2), (48, .invokevirtual 325, 3), (51, .i2l, 1), (52, .ladd, 1), (53, .lstore 4, 2), (55, .iinc 8 1, 3), (58, .goto (-29), 3), (61, .iinc 7 1, 3)]
set_option maxRecDepth 100000 in
theorem gv_161_1 : g_okc cX5_digestOfMoves gi_161_1 = true := by decide +kernel
def gi_161_2 : List (Nat × Instr × Nat) := [(64, .goto (-45), 3), (67, .lload 4, 2), (69, .lreturn, 1)]
set_option maxRecDepth 100000 in
theorem gv_161_2 : g_okc cX5_digestOfMoves gi_161_2 = true := by decide +kernel
def gi_161 : List (List (Nat × Instr × Nat)) := [gi_161_0, gi_161_1, gi_161_2]
theorem gv_161 : ∀ ch ∈ gi_161, g_okc cX5_digestOfMoves ch = true := List.forall_mem_cons.mpr ⟨gv_161_0, List.forall_mem_cons.mpr ⟨gv_161_1, List.forall_mem_cons.mpr ⟨gv_161_2, fun _ h => absurd h List.not_mem_nil⟩⟩⟩
def gi_162_0 : List (Nat × Instr × Nat) := [(0, .ldc2_w 302, 3), (3, .lstore_n 1, 1), (4, .iconst 0, 1), (5, .istore_n 3, 1), (6, .iload_n 3, 1), (7, .bipush 16, 2), (9, .if_icmp .ge 22, 3), (12, .lload_n 1, 1), (13, .ldc2_w 304, 3), (16, .lmul, 1), (17, .aload_n 0, 1), (18, .iload_n 3, 1), (19, .invokevirtual 306, 3), (22, .i2l, 1), (23, .ladd, 1), (24, .lstore_n 1, 1), (25, .iinc 3 1, 3), (28, .goto (-22), 3), (31, .iconst 0, 1)]
set_option maxRecDepth 100000 in
theorem gv_162_0 : g_okc cX5_digest gi_162_0 = true := by decide +kernel
def gi_162_1 : List (Nat × Instr × Nat) := [(32, .istore_n 3, 1), (33, .iload_n 3, 1), (34, .aload_n 0, 1), (35, .getfield 10, 3), (38, .getfield 37, 3), (41, .if_icmp .ge 40, 3), (44, .iconst 0, 1), (45, .istore 4, 2), (47, .iload 4, 2), (49, .bipush 12, 2), (51, .if_icmp .ge 24, 3), (54, .lload_n 1, 1), (55, .ldc2_w 304, 3), (58, .lmul, 1), (59, .aload_n 0, 1), (60, .iload_n 3, 1), (61, .iload 4, 2), (63, .invokevirtual 309, 3)]
set_option maxRecDepth 100000 in
theorem gv_162_1 : g_okc cX5_digest gi_162_1 = true := by decide +kernel
def gi_162_2 : List (Nat × Instr × Nat) := [(66, .i2l, 1), (67, .ladd, 1), (68, .lstore_n 1, 1), (69, .iinc 4 1, 3), (72, .goto (-25), 3), (75, .iinc 3 1, 3), (78, .goto (-45), 3), (81, .iconst 0, 1), (82, .istore_n 3, 1), (83, .iload_n 3, 1), (84, .aload_n 0, 1), (85, .getfield 68, 3), (88, .if_icmp .ge 39, 3), (91, .iconst 0, 1), (92, .istore 4, 2), (94, .iload 4, 2)]
set_option maxRecDepth 100000 in
theorem gv_162_2 : g_okc cX5_digest gi_162_2 = true := by decide +kernel
def gi_162_3 : List (Nat × Instr × Nat) := [(96, .iconst 4, 1), (97, .if_icmp .ge 24, 3), (100, .lload_n 1, 1), (101, .ldc2_w 304, 3), (104, .lmul, 1), (105, .aload_n 0, 1), (106, .iload_n 3, 1), (107, .iload 4, 2), (109, .invokevirtual 312, 3), (112, .i2l, 1), (113, .ladd, 1), (114, .lstore_n 1, 1), (115, .iinc 4 1, 3), (118, .goto (-24), 3), (121, .iinc 3 1, 3), (124, .goto (-41), 3), (127, .iconst 0, 1)]
set_option maxRecDepth 100000 in
theorem gv_162_3 : g_okc cX5_digest gi_162_3 = true := by decide +kernel
def gi_162_4 : List (Nat × Instr × Nat) := [(128, .istore_n 3, 1), (129, .iload_n 3, 1), (130, .aload_n 0, 1), (131, .getfield 10, 3), (134, .getfield 84, 3), (137, .if_icmp .ge 44, 3), (140, .aload_n 0, 1), (141, .lload_n 1, 1), (142, .iload_n 3, 1), (143, .invokevirtual 315, 3), (146, .lstore_n 1, 1), (147, .lload_n 1, 1), (148, .ldc2_w 304, 3), (151, .lmul, 1), (152, .aload_n 0, 1), (153, .iload_n 3, 1), (154, .invokevirtual 279, 3), (157, .i2l, 1), (158, .ladd, 1), (159, .lstore_n 1, 1)]
set_option maxRecDepth 100000 in
theorem gv_162_4 : g_okc cX5_digest gi_162_4 = true := by decide +kernel
def gi_162_5 : List (Nat × Instr × Nat) := [(160, .lload_n 1, 1), (161, .ldc2_w 304, 3), (164, .lmul, 1), (165, .aload_n 0, 1), (166, .getfield 16, 3), (169, .getfield 283, 3), (172, .i2l, 1), (173, .ladd, 1), (174, .lstore_n 1, 1), (175, .iinc 3 1, 3), (178, .goto (-49), 3), (181, .lload_n 1, 1), (182, .ldc2_w 304, 3), (185, .lmul, 1), (186, .aload_n 0, 1), (187, .bipush 9, 2), (189, .invokevirtual 319, 3)]
set_option maxRecDepth 100000 in
theorem gv_162_5 : g_okc cX5_digest gi_162_5 = true := by decide +kernel
def gi_162_6 : List (Nat × Instr × Nat) := [(192, .i2l, 1), (193, .ladd, 1), (194, .lstore_n 1, 1), (195, .lload_n 1, 1), (196, .ldc2_w 304, 3), (199, .lmul, 1), (200, .aload_n 0, 1), (201, .iconst 1, 1), (202, .aload_n 0, 1), (203, .getfield 68, 3), (206, .ishl, 1), (207, .iconst 1, 1), (208, .isub, 1), (209, .invokevirtual 322, 3), (212, .i2l, 1), (213, .ladd, 1), (214, .lreturn, 1)]
set_option maxRecDepth 100000 in
theorem gv_162_6 : g_okc cX5_digest gi_162_6 = true := by decide +kernel
def gi_162 : List (List (Nat × Instr × Nat)) := [gi_162_0, gi_162_1, gi_162_2, gi_162_3, gi_162_4, gi_162_5, gi_162_6]
theorem gv_162 : ∀ ch ∈ gi_162, g_okc cX5_digest ch = true := List.forall_mem_cons.mpr ⟨gv_162_0, List.forall_mem_cons.mpr ⟨gv_162_1, List.forall_mem_cons.mpr ⟨gv_162_2, List.forall_mem_cons.mpr ⟨gv_162_3, List.forall_mem_cons.mpr ⟨gv_162_4, List.forall_mem_cons.mpr ⟨gv_162_5, List.forall_mem_cons.mpr ⟨gv_162_6, fun _ h => absurd h List.not_mem_nil⟩⟩⟩⟩⟩⟩⟩
def gi_163_0 : List (Nat × Instr × Nat) := [(0, .aload_n 0, 1), (1, .aload_n 0, 1), (2, .getfield 181, 3), (5, .ldc2_w 185, 3), (8, .lmul, 1), (9, .iload_n 1, 1), (10, .i2l, 1), (11, .ladd, 1), (12, .putfield 181, 3), (15, .return_, 1)]
set_option maxRecDepth 100000 in
theorem gv_163_0 : g_okc cX7_add gi_163_0 = true := by decide +kernel
def gi_163 : List (List (Nat × Instr × Nat)) := [gi_163_0]
theorem gv_163 : ∀ ch ∈ gi_163, g_okc cX7_add ch = true := List.forall_mem_cons.mpr ⟨gv_163_0, fun _ h => absurd h List.not_mem_nil⟩
def gi_164_0 : List (Nat × Instr × Nat) := [(0, .aload_n 0, 1), (1, .iconst 0, 1), (2, .putfield 23, 3), (5, .aload_n 0, 1), (6, .ldc2_w 187, 3), (9, .putfield 181, 3), (12, .iconst 0, 1), (13, .istore_n 1, 1), (14, .iload_n 1, 1), (15, .bipush 16, 2), (17, .if_icmp .ge 18, 3), (20, .aload_n 0, 1), (21, .aload_n 0, 1), (22, .iload_n 1, 1), (23, .invokevirtual 151, 3), (26, .invokevirtual 189, 3), (29, .iinc 1 1, 3)]
set_option maxRecDepth 100000 in
theorem gv_164_0 : g_okc cX7_digest gi_164_0 = true := by decide +kernel
def gi_164_1 : List (Nat × Instr × Nat) := [(32, .goto (-18), 3), (35, .iconst 0, 1), (36, .istore_n 1, 1), (37, .iload_n 1, 1), (38, .aload_n 0, 1), (39, .getfield 19, 3), (42, .getfield 27, 3), (45, .invokevirtual 30, 3), (48, .if_icmp .ge 33, 3), (51, .iconst 0, 1), (52, .istore_n 2, 1), (53, .iload_n 2, 1), (54, .bipush 12, 2), (56, .if_icmp .ge 19, 3), (59, .aload_n 0, 1), (60, .aload_n 0, 1), (61, .iload_n 1, 1), (62, .iload_n 2, 1), (63, .invokevirtual 124, 3)]
set_option maxRecDepth 100000 in
theorem gv_164_1 : g_okc cX7_digest gi_164_1 = true := by decide +kernel
def gi_164_2 : List (Nat × Instr × Nat) := [(66, .invokevirtual 189, 3), (69, .iinc 2 1, 3), (72, .goto (-19), 3), (75, .iinc 1 1, 3), (78, .goto (-41), 3), (81, .aload_n 0, 1), (82, .getfield 10, 3), (85, .invokevirtual 67, 3), (88, .astore_n 1, 1), (89, .aload_n 1, 1), (90, .invokeinterface 71 1, 5), (95, .ifCond .eq 50, 3)]
set_option maxRecDepth 100000 in
theorem gv_164_2 : g_okc cX7_digest gi_164_2 = true := by decide +kernel
def gi_164_3 : List (Nat × Instr × Nat) := [(98, .aload_n 1, 1), (99, .invokeinterface 77 1, 5), (104, .checkcast 81, 3), (107, .astore_n 2, 1), (108, .aload_n 2, 1), (109, .astore_n 3, 1), (110, .aload_n 3, 1), (111, .arraylength, 1), (112, .istore 4, 2), (114, .iconst 0, 1), (115, .istore 5, 2), (117, .iload 5, 2), (119, .iload 4, 2), (121, .if_icmp .ge 21, 3), (124, .aload_n 3, 1), (125, .iload 5, 2), (127, .iaload, 1)]
set_option maxRecDepth 100000 in
theorem gv_164_3 : g_okc cX7_digest gi_164_3 = true := by decide +kernel
def gi_164_4 : List (Nat × Instr × Nat) := [(128, .istore 6, 2), (130, .aload_n 0, 1), (131, .iload 6, 2), (133, .invokevirtual 189, 3), (136, .iinc 5 1, 3), (139, .goto (-22), 3), (142, .goto (-53), 3), (145, .iconst 0, 1), (146, .istore_n 1, 1), (147, .iload_n 1, 1), (148, .aload_n 0, 1), (149, .getfield 19, 3), (152, .getfield 38, 3), (155, .invokevirtual 30, 3), (158, .if_icmp .ge 107, 3)]
set_option maxRecDepth 100000 in
theorem gv_164_4 : g_okc cX7_digest gi_164_4 = true := by decide +kernel
def gi_164_5 : List (Nat × Instr × Nat) := [(161, .aload_n 0, 1), (162, .getfield 19, 3), (165, .getfield 38, 3), (168, .iload_n 1, 1), (169, .invokevirtual 60, 3), (172, .checkcast 7, 3), (175, .invokevirtual 67, 3), (178, .astore_n 2, 1), (179, .aload_n 2, 1), (180, .invokeinterface 71 1, 5), (185, .ifCond .eq 53, 3), (188, .aload_n 2, 1), (189, .invokeinterface 77 1, 5)]
set_option maxRecDepth 100000 in
theorem gv_164_5 : g_okc cX7_digest gi_164_5 = true := by decide +kernel
def gi_164_6 : List (Nat × Instr × Nat) := [(194, .checkcast 81, 3), (197, .astore_n 3, 1), (198, .aload_n 3, 1), (199, .astore 4, 2), (201, .aload 4, 2), (203, .arraylength, 1), (204, .istore 5, 2), (206, .iconst 0, 1), (207, .istore 6, 2), (209, .iload 6, 2), (211, .iload 5, 2), (213, .if_icmp .ge 22, 3), (216, .aload 4, 2), (218, .iload 6, 2), (220, .iaload, 1), (221, .istore 7, 2), (223, .aload_n 0, 1)]
set_option maxRecDepth 100000 in
theorem gv_164_6 : g_okc cX7_digest gi_164_6 = true := by decide +kernel
def gi_164_7 : List (Nat × Instr × Nat) := [(224, .iload 7, 2), (226, .invokevirtual 189, 3), (229, .iinc 6 1, 3), (232, .goto (-23), 3), (235, .goto (-56), 3), (238, .aload_n 0, 1), (239, .aload_n 0, 1), (240, .iload_n 1, 1), (241, .invokevirtual 168, 3), (244, .invokevirtual 189, 3), (247, .aload_n 0, 1), (248, .aload_n 0, 1), (249, .iload_n 1, 1), (250, .invokevirtual 161, 3), (253, .getfield 165, 3)]
set_option maxRecDepth 100000 in
theorem gv_164_7 : g_okc cX7_digest gi_164_7 = true := by decide +kernel
def gi_164_8 : List (Nat × Instr × Nat) := [(256, .invokevirtual 189, 3), (259, .iinc 1 1, 3), (262, .goto (-115), 3), (265, .aload_n 0, 1), (266, .aload_n 0, 1), (267, .bipush 9, 2), (269, .invokevirtual 171, 3), (272, .invokevirtual 189, 3), (275, .aload_n 0, 1), (276, .aload_n 0, 1), (277, .iconst 1, 1), (278, .aload_n 0, 1), (279, .getfield 10, 3), (282, .invokevirtual 30, 3), (285, .ishl, 1), (286, .iconst 1, 1), (287, .isub, 1)]
set_option maxRecDepth 100000 in
theorem gv_164_8 : g_okc cX7_digest gi_164_8 = true := by decide +kernel
def gi_164_9 : List (Nat × Instr × Nat) := [(288, .invokevirtual 178, 3), (291, .invokevirtual 189, 3), (294, .aload_n 0, 1), (295, .getfield 181, 3), (298, .lreturn, 1)]
set_option maxRecDepth 100000 in
theorem gv_164_9 : g_okc cX7_digest gi_164_9 = true := by decide +kernel
def gi_164 : List (List (Nat × Instr × Nat)) := [gi_164_0, gi_164_1, gi_164_2, gi_164_3, gi_164_4, gi_164_5, gi_164_6, gi_164_7, gi_164_8, gi_164_9]
theorem gv_164 : ∀ ch ∈ gi_164, g_okc cX7_digest ch = true := List.forall_mem_cons.mpr ⟨gv_164_0, List.forall_mem_cons.mpr ⟨gv_164_1, List.forall_mem_cons.mpr ⟨gv_164_2, List.forall_mem_cons.mpr ⟨gv_164_3, List.forall_mem_cons.mpr ⟨gv_164_4, List.forall_mem_cons.mpr ⟨gv_164_5, List.forall_mem_cons.mpr ⟨gv_164_6, List.forall_mem_cons.mpr ⟨gv_164_7, List.forall_mem_cons.mpr ⟨gv_164_8, List.forall_mem_cons.mpr ⟨gv_164_9, fun _ h => absurd h List.not_mem_nil⟩⟩⟩⟩⟩⟩⟩⟩⟩⟩
def gi_165_0 : List (Nat × Instr × Nat) := [(0, .new 8, 3), (3, .dup, 1), (4, .invokespecial 94, 3), (7, .astore_n 1, 1), (8, .new 95, 3), (11, .dup, 1), (12, .invokespecial 97, 3), (15, .astore_n 2, 1), (16, .iconst 1, 1), (17, .newarray .long, 2), (19, .astore_n 3, 1), (20, .iconst 0, 1), (21, .istore 4, 2), (23, .iload 4, 2), (25, .aload_n 0, 1), (26, .arraylength, 1), (27, .bipush 6, 2), (29, .isub, 1), (30, .if_icmp .gt 1775, 3)]
set_option maxRecDepth 100000 in
theorem gv_165_0 : g_okc cL_law gi_165_0 = true := by decide +kernel
def gi_165_1 : List (Nat × Instr × Nat) := [(33, .aload_n 0, 1), (34, .iload 4, 2), (36, .iaload, 1), (37, .bipush 31, 2), (39, .iand, 1), (40, .tableswitch 1759 0 24 #[116, 200, 280, 336, 440, 496, 615, 683, 739, 807, 863, 942, 986, 1077, 1133, 1201, 1269, 1349, 1424, 1480, 1521, 1577, 1633, 1689, 1745], 116)]
set_option maxRecDepth 100000 in
theorem gv_165_1 : g_okc cL_law gi_165_1 = true := by decide +kernel
def gi_165_2 : List (Nat × Instr × Nat) := []
set_option maxRecDepth 100000 in
theorem gv_165_2 : g_okc cL_law gi_165_2 = true := by decide +kernel
def gi_165_3 : List (Nat × Instr × Nat) := []
set_option maxRecDepth 100000 in
theorem gv_165_3 : g_okc cL_law gi_165_3 = true := by decide +kernel
def gi_165_4 : List (Nat × Instr × Nat) := [(156, .aload_n 1, 1), (157, .aload_n 0, 1), (158, .iload 4, 2)]
set_option maxRecDepth 100000 in
theorem gv_165_4 : g_okc cL_law gi_165_4 = true := by decide +kernel
def gi_165_5 : List (Nat × Instr × Nat) := [(160, .iconst 1, 1), (161, .iadd, 1), (162, .iaload, 1), (163, .ifCond .eq 7, 3), (166, .iconst 1, 1), (167, .goto 4, 3), (170, .iconst 0, 1), (171, .aload_n 0, 1), (172, .iload 4, 2), (174, .iconst 2, 1), (175, .iadd, 1), (176, .iaload, 1), (177, .aload_n 3, 1), (178, .invokestatic 98, 3), (181, .istore 5, 2), (183, .aload_n 2, 1), (184, .aload_n 0, 1), (185, .iload 4, 2), (187, .iconst 1, 1), (188, .iadd, 1), (189, .iaload, 1), (190, .ifCond .eq 7, 3)]
set_option maxRecDepth 100000 in
theorem gv_165_5 : g_okc cL_law gi_165_5 = true := by decide +kernel
def gi_165_6 : List (Nat × Instr × Nat) := [(193, .iconst 1, 1), (194, .goto 4, 3), (197, .iconst 0, 1), (198, .aload_n 0, 1), (199, .iload 4, 2), (201, .iconst 2, 1), (202, .iadd, 1), (203, .iaload, 1), (204, .invokevirtual 103, 3), (207, .istore 6, 2), (209, .aload_n 2, 1), (210, .invokevirtual 104, 3), (213, .iload 5, 2), (215, .if_icmp .eq 5, 3), (218, .iconst 0, 1), (219, .ireturn, 1), (220, .iload 5, 2), (222, .ifCond .ne 15, 3)]
set_option maxRecDepth 100000 in
theorem gv_165_6 : g_okc cL_law gi_165_6 = true := by decide +kernel
def gi_165_7 : List (Nat × Instr × Nat) := [(225, .aload_n 3, 1), (226, .iconst 0, 1), (227, .laload, 1), (228, .iload 6, 2), (230, .i2l, 1), (231, .lcmp, 1), (232, .ifCond .eq 5, 3), (235, .iconst 0, 1), (236, .ireturn, 1), (237, .goto 1562, 3), (240, .aload_n 1, 1), (241, .aload_n 0, 1), (242, .iload 4, 2), (244, .iconst 1, 1), (245, .iadd, 1), (246, .iaload, 1), (247, .aload_n 0, 1), (248, .iload 4, 2), (250, .iconst 2, 1), (251, .iadd, 1), (252, .iaload, 1), (253, .aload_n 0, 1), (254, .iload 4, 2)]
set_option maxRecDepth 100000 in
theorem gv_165_7 : g_okc cL_law gi_165_7 = true := by decide +kernel
def gi_165_8 : List (Nat × Instr × Nat) := [(256, .iconst 3, 1), (257, .iadd, 1), (258, .iaload, 1), (259, .aload_n 3, 1), (260, .invokestatic 107, 3), (263, .istore 5, 2), (265, .aload_n 2, 1), (266, .aload_n 0, 1), (267, .iload 4, 2), (269, .iconst 1, 1), (270, .iadd, 1), (271, .iaload, 1), (272, .aload_n 0, 1), (273, .iload 4, 2), (275, .iconst 2, 1), (276, .iadd, 1), (277, .iaload, 1), (278, .aload_n 0, 1), (279, .iload 4, 2), (281, .iconst 3, 1), (282, .iadd, 1), (283, .iaload, 1), (284, .invokevirtual 110, 3), (287, .istore 6, 2)]
set_option maxRecDepth 100000 in
theorem gv_165_8 : g_okc cL_law gi_165_8 = true := by decide +kernel
def gi_165_9 : List (Nat × Instr × Nat) := [(289, .aload_n 2, 1), (290, .invokevirtual 104, 3), (293, .iload 5, 2), (295, .if_icmp .eq 5, 3), (298, .iconst 0, 1), (299, .ireturn, 1), (300, .iload 5, 2), (302, .ifCond .ne 15, 3), (305, .aload_n 3, 1), (306, .iconst 0, 1), (307, .laload, 1), (308, .iload 6, 2), (310, .i2l, 1), (311, .lcmp, 1), (312, .ifCond .eq 5, 3), (315, .iconst 0, 1), (316, .ireturn, 1), (317, .goto 1482, 3)]
set_option maxRecDepth 100000 in
theorem gv_165_9 : g_okc cL_law gi_165_9 = true := by decide +kernel
def gi_165_10 : List (Nat × Instr × Nat) := [(320, .aload_n 1, 1), (321, .aload_n 0, 1), (322, .iload 4, 2), (324, .iconst 1, 1), (325, .iadd, 1), (326, .iaload, 1), (327, .aload_n 3, 1), (328, .invokestatic 111, 3), (331, .istore 5, 2), (333, .aload_n 2, 1), (334, .aload_n 0, 1), (335, .iload 4, 2), (337, .iconst 1, 1), (338, .iadd, 1), (339, .iaload, 1), (340, .invokevirtual 114, 3), (343, .istore 6, 2), (345, .aload_n 2, 1), (346, .invokevirtual 104, 3), (349, .iload 5, 2), (351, .if_icmp .eq 5, 3)]
set_option maxRecDepth 100000 in
theorem gv_165_10 : g_okc cL_law gi_165_10 = true := by decide +kernel
def gi_165_11 : List (Nat × Instr × Nat) := [(354, .iconst 0, 1), (355, .ireturn, 1), (356, .iload 5, 2), (358, .ifCond .ne 15, 3), (361, .aload_n 3, 1), (362, .iconst 0, 1), (363, .laload, 1), (364, .iload 6, 2), (366, .i2l, 1), (367, .lcmp, 1), (368, .ifCond .eq 5, 3), (371, .iconst 0, 1), (372, .ireturn, 1), (373, .goto 1426, 3), (376, .aload_n 1, 1), (377, .aload_n 0, 1), (378, .iload 4, 2), (380, .iconst 1, 1), (381, .iadd, 1), (382, .iaload, 1), (383, .aload_n 0, 1)]
set_option maxRecDepth 100000 in
theorem gv_165_11 : g_okc cL_law gi_165_11 = true := by decide +kernel
def gi_165_12 : List (Nat × Instr × Nat) := [(384, .iload 4, 2), (386, .iconst 2, 1), (387, .iadd, 1), (388, .iaload, 1), (389, .aload_n 0, 1), (390, .iload 4, 2), (392, .iconst 3, 1), (393, .iadd, 1), (394, .iaload, 1), (395, .aload_n 0, 1), (396, .iload 4, 2), (398, .iconst 4, 1), (399, .iadd, 1), (400, .iaload, 1), (401, .aload_n 0, 1), (402, .iload 4, 2), (404, .iconst 5, 1), (405, .iadd, 1), (406, .iaload, 1), (407, .aload_n 3, 1), (408, .invokestatic 115, 3), (411, .istore 5, 2), (413, .aload_n 2, 1), (414, .aload_n 0, 1), (415, .iload 4, 2)]
set_option maxRecDepth 100000 in
theorem gv_165_12 : g_okc cL_law gi_165_12 = true := by decide +kernel
def gi_165_13 : List (Nat × Instr × Nat) := [(417, .iconst 1, 1), (418, .iadd, 1), (419, .iaload, 1), (420, .aload_n 0, 1), (421, .iload 4, 2), (423, .iconst 2, 1), (424, .iadd, 1), (425, .iaload, 1), (426, .aload_n 0, 1), (427, .iload 4, 2), (429, .iconst 3, 1), (430, .iadd, 1), (431, .iaload, 1), (432, .aload_n 0, 1), (433, .iload 4, 2), (435, .iconst 4, 1), (436, .iadd, 1), (437, .iaload, 1), (438, .aload_n 0, 1), (439, .iload 4, 2), (441, .iconst 5, 1), (442, .iadd, 1), (443, .iaload, 1), (444, .invokevirtual 118, 3), (447, .istore 6, 2)]
set_option maxRecDepth 100000 in
theorem gv_165_13 : g_okc cL_law gi_165_13 = true := by decide +kernel
def gi_165_14 : List (Nat × Instr × Nat) := [(449, .aload_n 2, 1), (450, .invokevirtual 104, 3), (453, .iload 5, 2), (455, .if_icmp .eq 5, 3), (458, .iconst 0, 1), (459, .ireturn, 1), (460, .iload 5, 2), (462, .ifCond .ne 15, 3), (465, .aload_n 3, 1), (466, .iconst 0, 1), (467, .laload, 1), (468, .iload 6, 2), (470, .i2l, 1), (471, .lcmp, 1), (472, .ifCond .eq 5, 3), (475, .iconst 0, 1), (476, .ireturn, 1), (477, .goto 1322, 3)]
set_option maxRecDepth 100000 in
theorem gv_165_14 : g_okc cL_law gi_165_14 = true := by decide +kernel
def gi_165_15 : List (Nat × Instr × Nat) := [(480, .aload_n 1, 1), (481, .aload_n 0, 1), (482, .iload 4, 2), (484, .iconst 1, 1), (485, .iadd, 1), (486, .iaload, 1), (487, .aload_n 3, 1), (488, .invokestatic 119, 3), (491, .istore 5, 2), (493, .aload_n 2, 1), (494, .aload_n 0, 1), (495, .iload 4, 2), (497, .iconst 1, 1), (498, .iadd, 1), (499, .iaload, 1), (500, .invokevirtual 121, 3), (503, .istore 6, 2), (505, .aload_n 2, 1), (506, .invokevirtual 104, 3), (509, .iload 5, 2), (511, .if_icmp .eq 5, 3)]
set_option maxRecDepth 100000 in
theorem gv_165_15 : g_okc cL_law gi_165_15 = true := by decide +kernel
def gi_165_16 : List (Nat × Instr × Nat) := [(514, .iconst 0, 1), (515, .ireturn, 1), (516, .iload 5, 2), (518, .ifCond .ne 15, 3), (521, .aload_n 3, 1), (522, .iconst 0, 1), (523, .laload, 1), (524, .iload 6, 2), (526, .i2l, 1), (527, .lcmp, 1), (528, .ifCond .eq 5, 3), (531, .iconst 0, 1), (532, .ireturn, 1), (533, .goto 1266, 3), (536, .aload_n 1, 1), (537, .aload_n 0, 1), (538, .iload 4, 2), (540, .iconst 1, 1), (541, .iadd, 1), (542, .iaload, 1), (543, .aload_n 0, 1)]
set_option maxRecDepth 100000 in
theorem gv_165_16 : g_okc cL_law gi_165_16 = true := by decide +kernel
def gi_165_17 : List (Nat × Instr × Nat) := [(544, .iload 4, 2), (546, .iconst 2, 1), (547, .iadd, 1), (548, .iaload, 1), (549, .ifCond .eq 7, 3), (552, .iconst 1, 1), (553, .goto 4, 3), (556, .iconst 0, 1), (557, .aload_n 0, 1), (558, .iload 4, 2), (560, .iconst 3, 1), (561, .iadd, 1), (562, .iaload, 1), (563, .ifCond .eq 7, 3), (566, .iconst 1, 1), (567, .goto 4, 3), (570, .iconst 0, 1), (571, .aload_n 3, 1), (572, .invokestatic 122, 3), (575, .istore 5, 2)]
set_option maxRecDepth 100000 in
theorem gv_165_17 : g_okc cL_law gi_165_17 = true := by decide +kernel
def gi_165_18 : List (Nat × Instr × Nat) := [(577, .aload_n 2, 1), (578, .aload_n 0, 1), (579, .iload 4, 2), (581, .iconst 1, 1), (582, .iadd, 1), (583, .iaload, 1), (584, .aload_n 0, 1), (585, .iload 4, 2), (587, .iconst 2, 1), (588, .iadd, 1), (589, .iaload, 1), (590, .ifCond .eq 7, 3), (593, .iconst 1, 1), (594, .goto 4, 3), (597, .iconst 0, 1), (598, .aload_n 0, 1), (599, .iload 4, 2), (601, .iconst 3, 1), (602, .iadd, 1), (603, .iaload, 1), (604, .ifCond .eq 7, 3), (607, .iconst 1, 1)]
set_option maxRecDepth 100000 in
theorem gv_165_18 : g_okc cL_law gi_165_18 = true := by decide +kernel
def gi_165_19 : List (Nat × Instr × Nat) := [(608, .goto 4, 3), (611, .iconst 0, 1), (612, .invokevirtual 125, 3), (615, .istore 6, 2), (617, .aload_n 2, 1), (618, .invokevirtual 104, 3), (621, .iload 5, 2), (623, .if_icmp .eq 5, 3), (626, .iconst 0, 1), (627, .ireturn, 1), (628, .iload 5, 2), (630, .ifCond .ne 22, 3), (633, .aload_n 3, 1), (634, .iconst 0, 1), (635, .laload, 1), (636, .iload 6, 2), (638, .ifCond .eq 7, 3)]
set_option maxRecDepth 100000 in
theorem gv_165_19 : g_okc cL_law gi_165_19 = true := by decide +kernel
def gi_165_20 : List (Nat × Instr × Nat) := [(641, .lconst 1, 1), (642, .goto 4, 3), (645, .lconst 0, 1), (646, .lcmp, 1), (647, .ifCond .eq 5, 3), (650, .iconst 0, 1), (651, .ireturn, 1), (652, .goto 1147, 3), (655, .aload_n 1, 1), (656, .aload_n 0, 1), (657, .iload 4, 2), (659, .iconst 1, 1), (660, .iadd, 1), (661, .iaload, 1), (662, .aload_n 0, 1), (663, .iload 4, 2), (665, .iconst 2, 1), (666, .iadd, 1), (667, .iaload, 1), (668, .aload_n 3, 1), (669, .invokestatic 126, 3)]
set_option maxRecDepth 100000 in
theorem gv_165_20 : g_okc cL_law gi_165_20 = true := by decide +kernel
def gi_165_21 : List (Nat × Instr × Nat) := [(672, .istore 5, 2), (674, .aload_n 2, 1), (675, .aload_n 0, 1), (676, .iload 4, 2), (678, .iconst 1, 1), (679, .iadd, 1), (680, .iaload, 1), (681, .aload_n 0, 1), (682, .iload 4, 2), (684, .iconst 2, 1), (685, .iadd, 1), (686, .iaload, 1), (687, .invokevirtual 129, 3), (690, .istore 6, 2), (692, .aload_n 2, 1), (693, .invokevirtual 104, 3), (696, .iload 5, 2), (698, .if_icmp .eq 5, 3), (701, .iconst 0, 1), (702, .ireturn, 1), (703, .iload 5, 2)]
set_option maxRecDepth 100000 in
theorem gv_165_21 : g_okc cL_law gi_165_21 = true := by decide +kernel
def gi_165_22 : List (Nat × Instr × Nat) := [(705, .ifCond .ne 15, 3), (708, .aload_n 3, 1), (709, .iconst 0, 1), (710, .laload, 1), (711, .iload 6, 2), (713, .i2l, 1), (714, .lcmp, 1), (715, .ifCond .eq 5, 3), (718, .iconst 0, 1), (719, .ireturn, 1), (720, .goto 1079, 3), (723, .aload_n 1, 1), (724, .aload_n 0, 1), (725, .iload 4, 2), (727, .iconst 1, 1), (728, .iadd, 1), (729, .iaload, 1), (730, .aload_n 3, 1), (731, .invokestatic 130, 3), (734, .istore 5, 2)]
set_option maxRecDepth 100000 in
theorem gv_165_22 : g_okc cL_law gi_165_22 = true := by decide +kernel
def gi_165_23 : List (Nat × Instr × Nat) := [(736, .aload_n 2, 1), (737, .aload_n 0, 1), (738, .iload 4, 2), (740, .iconst 1, 1), (741, .iadd, 1), (742, .iaload, 1), (743, .invokevirtual 132, 3), (746, .istore 6, 2), (748, .aload_n 2, 1), (749, .invokevirtual 104, 3), (752, .iload 5, 2), (754, .if_icmp .eq 5, 3), (757, .iconst 0, 1), (758, .ireturn, 1), (759, .iload 5, 2), (761, .ifCond .ne 15, 3), (764, .aload_n 3, 1), (765, .iconst 0, 1), (766, .laload, 1), (767, .iload 6, 2)]
set_option maxRecDepth 100000 in
theorem gv_165_23 : g_okc cL_law gi_165_23 = true := by decide +kernel
def gi_165_24 : List (Nat × Instr × Nat) := [(769, .i2l, 1), (770, .lcmp, 1), (771, .ifCond .eq 5, 3), (774, .iconst 0, 1), (775, .ireturn, 1), (776, .goto 1023, 3), (779, .aload_n 1, 1), (780, .aload_n 0, 1), (781, .iload 4, 2), (783, .iconst 1, 1), (784, .iadd, 1), (785, .iaload, 1), (786, .aload_n 0, 1), (787, .iload 4, 2), (789, .iconst 2, 1), (790, .iadd, 1), (791, .iaload, 1), (792, .aload_n 3, 1), (793, .invokestatic 133, 3), (796, .istore 5, 2), (798, .aload_n 2, 1), (799, .aload_n 0, 1)]
set_option maxRecDepth 100000 in
theorem gv_165_24 : g_okc cL_law gi_165_24 = true := by decide +kernel
def gi_165_25 : List (Nat × Instr × Nat) := [(800, .iload 4, 2), (802, .iconst 1, 1), (803, .iadd, 1), (804, .iaload, 1), (805, .aload_n 0, 1), (806, .iload 4, 2), (808, .iconst 2, 1), (809, .iadd, 1), (810, .iaload, 1), (811, .invokevirtual 135, 3), (814, .istore 6, 2), (816, .aload_n 2, 1), (817, .invokevirtual 104, 3), (820, .iload 5, 2), (822, .if_icmp .eq 5, 3), (825, .iconst 0, 1), (826, .ireturn, 1), (827, .iload 5, 2), (829, .ifCond .ne 15, 3)]
set_option maxRecDepth 100000 in
theorem gv_165_25 : g_okc cL_law gi_165_25 = true := by decide +kernel
def gi_165_26 : List (Nat × Instr × Nat) := [(832, .aload_n 3, 1), (833, .iconst 0, 1), (834, .laload, 1), (835, .iload 6, 2), (837, .i2l, 1), (838, .lcmp, 1), (839, .ifCond .eq 5, 3), (842, .iconst 0, 1), (843, .ireturn, 1), (844, .goto 955, 3), (847, .aload_n 1, 1), (848, .aload_n 0, 1), (849, .iload 4, 2), (851, .iconst 1, 1), (852, .iadd, 1), (853, .iaload, 1), (854, .aload_n 3, 1), (855, .invokestatic 136, 3), (858, .istore 5, 2), (860, .aload_n 2, 1), (861, .aload_n 0, 1), (862, .iload 4, 2)]
set_option maxRecDepth 100000 in
theorem gv_165_26 : g_okc cL_law gi_165_26 = true := by decide +kernel
def gi_165_27 : List (Nat × Instr × Nat) := [(864, .iconst 1, 1), (865, .iadd, 1), (866, .iaload, 1), (867, .invokevirtual 138, 3), (870, .istore 6, 2), (872, .aload_n 2, 1), (873, .invokevirtual 104, 3), (876, .iload 5, 2), (878, .if_icmp .eq 5, 3), (881, .iconst 0, 1), (882, .ireturn, 1), (883, .iload 5, 2), (885, .ifCond .ne 15, 3), (888, .aload_n 3, 1), (889, .iconst 0, 1), (890, .laload, 1), (891, .iload 6, 2), (893, .i2l, 1), (894, .lcmp, 1), (895, .ifCond .eq 5, 3)]
set_option maxRecDepth 100000 in
theorem gv_165_27 : g_okc cL_law gi_165_27 = true := by decide +kernel
def gi_165_28 : List (Nat × Instr × Nat) := [(898, .iconst 0, 1), (899, .ireturn, 1), (900, .goto 899, 3), (903, .aload_n 1, 1), (904, .aload_n 0, 1), (905, .iload 4, 2), (907, .iconst 1, 1), (908, .iadd, 1), (909, .iaload, 1), (910, .ifCond .eq 7, 3), (913, .iconst 1, 1), (914, .goto 4, 3), (917, .iconst 0, 1), (918, .aload_n 3, 1), (919, .invokestatic 139, 3), (922, .istore 5, 2), (924, .aload_n 2, 1), (925, .aload_n 0, 1), (926, .iload 4, 2)]
set_option maxRecDepth 100000 in
theorem gv_165_28 : g_okc cL_law gi_165_28 = true := by decide +kernel
def gi_165_29 : List (Nat × Instr × Nat) := [(928, .iconst 1, 1), (929, .iadd, 1), (930, .iaload, 1), (931, .ifCond .eq 7, 3), (934, .iconst 1, 1), (935, .goto 4, 3), (938, .iconst 0, 1), (939, .invokevirtual 142, 3), (942, .istore 6, 2), (944, .aload_n 2, 1), (945, .invokevirtual 104, 3), (948, .iload 5, 2), (950, .if_icmp .eq 5, 3), (953, .iconst 0, 1), (954, .ireturn, 1), (955, .iload 5, 2), (957, .ifCond .ne 22, 3)]
set_option maxRecDepth 100000 in
theorem gv_165_29 : g_okc cL_law gi_165_29 = true := by decide +kernel
def gi_165_30 : List (Nat × Instr × Nat) := [(960, .aload_n 3, 1), (961, .iconst 0, 1), (962, .laload, 1), (963, .iload 6, 2), (965, .ifCond .eq 7, 3), (968, .lconst 1, 1), (969, .goto 4, 3), (972, .lconst 0, 1), (973, .lcmp, 1), (974, .ifCond .eq 5, 3), (977, .iconst 0, 1), (978, .ireturn, 1), (979, .goto 820, 3), (982, .aload_n 1, 1), (983, .aload_n 3, 1), (984, .invokestatic 143, 3), (987, .istore 5, 2), (989, .aload_n 2, 1), (990, .invokevirtual 146, 3)]
set_option maxRecDepth 100000 in
theorem gv_165_30 : g_okc cL_law gi_165_30 = true := by decide +kernel
def gi_165_31 : List (Nat × Instr × Nat) := [(993, .istore 6, 2), (995, .aload_n 2, 1), (996, .invokevirtual 104, 3), (999, .iload 5, 2), (1001, .if_icmp .eq 5, 3), (1004, .iconst 0, 1), (1005, .ireturn, 1), (1006, .iload 5, 2), (1008, .ifCond .ne 15, 3), (1011, .aload_n 3, 1), (1012, .iconst 0, 1), (1013, .laload, 1), (1014, .iload 6, 2), (1016, .i2l, 1), (1017, .lcmp, 1), (1018, .ifCond .eq 5, 3), (1021, .iconst 0, 1), (1022, .ireturn, 1), (1023, .goto 776, 3)]
set_option maxRecDepth 100000 in
theorem gv_165_31 : g_okc cL_law gi_165_31 = true := by decide +kernel
def gi_165_32 : List (Nat × Instr × Nat) := [(1026, .aload_n 1, 1), (1027, .aload_n 0, 1), (1028, .iload 4, 2), (1030, .iconst 1, 1), (1031, .iadd, 1), (1032, .iaload, 1), (1033, .aload_n 0, 1), (1034, .iload 4, 2), (1036, .iconst 2, 1), (1037, .iadd, 1), (1038, .iaload, 1), (1039, .ifCond .eq 7, 3), (1042, .iconst 1, 1), (1043, .goto 4, 3), (1046, .iconst 0, 1), (1047, .aload_n 3, 1), (1048, .invokestatic 147, 3), (1051, .istore 5, 2), (1053, .aload_n 2, 1), (1054, .aload_n 0, 1), (1055, .iload 4, 2)]
set_option maxRecDepth 100000 in
theorem gv_165_32 : g_okc cL_law gi_165_32 = true := by decide +kernel
def gi_165_33 : List (Nat × Instr × Nat) := [(1057, .iconst 1, 1), (1058, .iadd, 1), (1059, .iaload, 1), (1060, .aload_n 0, 1), (1061, .iload 4, 2), (1063, .iconst 2, 1), (1064, .iadd, 1), (1065, .iaload, 1), (1066, .ifCond .eq 7, 3), (1069, .iconst 1, 1), (1070, .goto 4, 3), (1073, .iconst 0, 1), (1074, .invokevirtual 150, 3), (1077, .istore 6, 2), (1079, .aload_n 2, 1), (1080, .invokevirtual 104, 3), (1083, .iload 5, 2), (1085, .if_icmp .eq 5, 3)]
set_option maxRecDepth 100000 in
theorem gv_165_33 : g_okc cL_law gi_165_33 = true := by decide +kernel
def gi_165_34 : List (Nat × Instr × Nat) := [(1088, .iconst 0, 1), (1089, .ireturn, 1), (1090, .iload 5, 2), (1092, .ifCond .ne 22, 3), (1095, .aload_n 3, 1), (1096, .iconst 0, 1), (1097, .laload, 1), (1098, .iload 6, 2), (1100, .ifCond .eq 7, 3), (1103, .lconst 1, 1), (1104, .goto 4, 3), (1107, .lconst 0, 1), (1108, .lcmp, 1), (1109, .ifCond .eq 5, 3), (1112, .iconst 0, 1), (1113, .ireturn, 1), (1114, .goto 685, 3), (1117, .aload_n 1, 1), (1118, .aload_n 0, 1), (1119, .iload 4, 2)]
set_option maxRecDepth 100000 in
theorem gv_165_34 : g_okc cL_law gi_165_34 = true := by decide +kernel
def gi_165_35 : List (Nat × Instr × Nat) := [(1121, .iconst 1, 1), (1122, .iadd, 1), (1123, .iaload, 1), (1124, .aload_n 3, 1), (1125, .invokestatic 151, 3), (1128, .istore 5, 2), (1130, .aload_n 2, 1), (1131, .aload_n 0, 1), (1132, .iload 4, 2), (1134, .iconst 1, 1), (1135, .iadd, 1), (1136, .iaload, 1), (1137, .invokevirtual 153, 3), (1140, .istore 6, 2), (1142, .aload_n 2, 1), (1143, .invokevirtual 104, 3), (1146, .iload 5, 2), (1148, .if_icmp .eq 5, 3), (1151, .iconst 0, 1)]
set_option maxRecDepth 100000 in
theorem gv_165_35 : g_okc cL_law gi_165_35 = true := by decide +kernel
def gi_165_36 : List (Nat × Instr × Nat) := [(1152, .ireturn, 1), (1153, .iload 5, 2), (1155, .ifCond .ne 15, 3), (1158, .aload_n 3, 1), (1159, .iconst 0, 1), (1160, .laload, 1), (1161, .iload 6, 2), (1163, .i2l, 1), (1164, .lcmp, 1), (1165, .ifCond .eq 5, 3), (1168, .iconst 0, 1), (1169, .ireturn, 1), (1170, .goto 629, 3), (1173, .aload_n 1, 1), (1174, .aload_n 0, 1), (1175, .iload 4, 2), (1177, .iconst 1, 1), (1178, .iadd, 1), (1179, .iaload, 1), (1180, .aload_n 0, 1), (1181, .iload 4, 2), (1183, .iconst 2, 1)]
set_option maxRecDepth 100000 in
theorem gv_165_36 : g_okc cL_law gi_165_36 = true := by decide +kernel
def gi_165_37 : List (Nat × Instr × Nat) := [(1184, .iadd, 1), (1185, .iaload, 1), (1186, .aload_n 3, 1), (1187, .invokestatic 154, 3), (1190, .istore 5, 2), (1192, .aload_n 2, 1), (1193, .aload_n 0, 1), (1194, .iload 4, 2), (1196, .iconst 1, 1), (1197, .iadd, 1), (1198, .iaload, 1), (1199, .aload_n 0, 1), (1200, .iload 4, 2), (1202, .iconst 2, 1), (1203, .iadd, 1), (1204, .iaload, 1), (1205, .invokevirtual 156, 3), (1208, .istore 6, 2), (1210, .aload_n 2, 1), (1211, .invokevirtual 104, 3), (1214, .iload 5, 2)]
set_option maxRecDepth 100000 in
theorem gv_165_37 : g_okc cL_law gi_165_37 = true := by decide +kernel
def gi_165_38 : List (Nat × Instr × Nat) := [(1216, .if_icmp .eq 5, 3), (1219, .iconst 0, 1), (1220, .ireturn, 1), (1221, .iload 5, 2), (1223, .ifCond .ne 15, 3), (1226, .aload_n 3, 1), (1227, .iconst 0, 1), (1228, .laload, 1), (1229, .iload 6, 2), (1231, .i2l, 1), (1232, .lcmp, 1), (1233, .ifCond .eq 5, 3), (1236, .iconst 0, 1), (1237, .ireturn, 1), (1238, .goto 561, 3), (1241, .aload_n 1, 1), (1242, .aload_n 0, 1), (1243, .iload 4, 2), (1245, .iconst 1, 1), (1246, .iadd, 1), (1247, .iaload, 1)]
set_option maxRecDepth 100000 in
theorem gv_165_38 : g_okc cL_law gi_165_38 = true := by decide +kernel
def gi_165_39 : List (Nat × Instr × Nat) := [(1248, .aload_n 0, 1), (1249, .iload 4, 2), (1251, .iconst 2, 1), (1252, .iadd, 1), (1253, .iaload, 1), (1254, .aload_n 3, 1), (1255, .invokestatic 157, 3), (1258, .istore 5, 2), (1260, .aload_n 2, 1), (1261, .aload_n 0, 1), (1262, .iload 4, 2), (1264, .iconst 1, 1), (1265, .iadd, 1), (1266, .iaload, 1), (1267, .aload_n 0, 1), (1268, .iload 4, 2), (1270, .iconst 2, 1), (1271, .iadd, 1), (1272, .iaload, 1), (1273, .invokevirtual 159, 3), (1276, .istore 6, 2), (1278, .aload_n 2, 1), (1279, .invokevirtual 104, 3)]
set_option maxRecDepth 100000 in
theorem gv_165_39 : g_okc cL_law gi_165_39 = true := by decide +kernel
def gi_165_40 : List (Nat × Instr × Nat) := [(1282, .iload 5, 2), (1284, .if_icmp .eq 5, 3), (1287, .iconst 0, 1), (1288, .ireturn, 1), (1289, .iload 5, 2), (1291, .ifCond .ne 15, 3), (1294, .aload_n 3, 1), (1295, .iconst 0, 1), (1296, .laload, 1), (1297, .iload 6, 2), (1299, .i2l, 1), (1300, .lcmp, 1), (1301, .ifCond .eq 5, 3), (1304, .iconst 0, 1), (1305, .ireturn, 1), (1306, .goto 493, 3), (1309, .aload_n 1, 1), (1310, .aload_n 0, 1), (1311, .iload 4, 2)]
set_option maxRecDepth 100000 in
theorem gv_165_40 : g_okc cL_law gi_165_40 = true := by decide +kernel
def gi_165_41 : List (Nat × Instr × Nat) := [(1313, .iconst 1, 1), (1314, .iadd, 1), (1315, .iaload, 1), (1316, .aload_n 0, 1), (1317, .iload 4, 2), (1319, .iconst 2, 1), (1320, .iadd, 1), (1321, .iaload, 1), (1322, .aload_n 0, 1), (1323, .iload 4, 2), (1325, .iconst 3, 1), (1326, .iadd, 1), (1327, .iaload, 1), (1328, .aload_n 3, 1), (1329, .invokestatic 160, 3), (1332, .istore 5, 2), (1334, .aload_n 2, 1), (1335, .aload_n 0, 1), (1336, .iload 4, 2), (1338, .iconst 1, 1), (1339, .iadd, 1), (1340, .iaload, 1), (1341, .aload_n 0, 1), (1342, .iload 4, 2)]
set_option maxRecDepth 100000 in
theorem gv_165_41 : g_okc cL_law gi_165_41 = true := by decide +kernel
def gi_165_42 : List (Nat × Instr × Nat) := [(1344, .iconst 2, 1), (1345, .iadd, 1), (1346, .iaload, 1), (1347, .aload_n 0, 1), (1348, .iload 4, 2), (1350, .iconst 3, 1), (1351, .iadd, 1), (1352, .iaload, 1), (1353, .invokevirtual 162, 3), (1356, .istore 6, 2), (1358, .aload_n 2, 1), (1359, .invokevirtual 104, 3), (1362, .iload 5, 2), (1364, .if_icmp .eq 5, 3), (1367, .iconst 0, 1), (1368, .ireturn, 1), (1369, .iload 5, 2), (1371, .ifCond .ne 15, 3), (1374, .aload_n 3, 1), (1375, .iconst 0, 1)]
set_option maxRecDepth 100000 in
theorem gv_165_42 : g_okc cL_law gi_165_42 = true := by decide +kernel
def gi_165_43 : List (Nat × Instr × Nat) := [(1376, .laload, 1), (1377, .iload 6, 2), (1379, .i2l, 1), (1380, .lcmp, 1), (1381, .ifCond .eq 5, 3), (1384, .iconst 0, 1), (1385, .ireturn, 1), (1386, .goto 413, 3), (1389, .aload_n 1, 1), (1390, .aload_n 0, 1), (1391, .iload 4, 2), (1393, .iconst 1, 1), (1394, .iadd, 1), (1395, .iaload, 1), (1396, .aload_n 0, 1), (1397, .iload 4, 2), (1399, .iconst 2, 1), (1400, .iadd, 1), (1401, .iaload, 1), (1402, .aload_n 3, 1), (1403, .invokestatic 163, 3), (1406, .istore 5, 2)]
set_option maxRecDepth 100000 in
theorem gv_165_43 : g_okc cL_law gi_165_43 = true := by decide +kernel
def gi_165_44 : List (Nat × Instr × Nat) := [(1408, .aload_n 2, 1), (1409, .aload_n 0, 1), (1410, .iload 4, 2), (1412, .iconst 1, 1), (1413, .iadd, 1), (1414, .iaload, 1), (1415, .aload_n 0, 1), (1416, .iload 4, 2), (1418, .iconst 2, 1), (1419, .iadd, 1), (1420, .iaload, 1), (1421, .invokevirtual 165, 3), (1424, .istore 6, 2), (1426, .aload_n 2, 1), (1427, .invokevirtual 104, 3), (1430, .iload 5, 2), (1432, .if_icmp .eq 5, 3), (1435, .iconst 0, 1), (1436, .ireturn, 1), (1437, .iload 5, 2), (1439, .ifCond .ne 22, 3)]
set_option maxRecDepth 100000 in
theorem gv_165_44 : g_okc cL_law gi_165_44 = true := by decide +kernel
def gi_165_45 : List (Nat × Instr × Nat) := [(1442, .aload_n 3, 1), (1443, .iconst 0, 1), (1444, .laload, 1), (1445, .iload 6, 2), (1447, .ifCond .eq 7, 3), (1450, .lconst 1, 1), (1451, .goto 4, 3), (1454, .lconst 0, 1), (1455, .lcmp, 1), (1456, .ifCond .eq 5, 3), (1459, .iconst 0, 1), (1460, .ireturn, 1), (1461, .goto 338, 3), (1464, .aload_n 1, 1), (1465, .aload_n 0, 1), (1466, .iload 4, 2), (1468, .iconst 1, 1), (1469, .iadd, 1), (1470, .iaload, 1), (1471, .aload_n 3, 1)]
set_option maxRecDepth 100000 in
theorem gv_165_45 : g_okc cL_law gi_165_45 = true := by decide +kernel
def gi_165_46 : List (Nat × Instr × Nat) := [(1472, .invokestatic 166, 3), (1475, .istore 5, 2), (1477, .aload_n 2, 1), (1478, .aload_n 0, 1), (1479, .iload 4, 2), (1481, .iconst 1, 1), (1482, .iadd, 1), (1483, .iaload, 1), (1484, .invokevirtual 168, 3), (1487, .istore 6, 2), (1489, .aload_n 2, 1), (1490, .invokevirtual 104, 3), (1493, .iload 5, 2), (1495, .if_icmp .eq 5, 3), (1498, .iconst 0, 1), (1499, .ireturn, 1), (1500, .iload 5, 2), (1502, .ifCond .ne 15, 3)]
set_option maxRecDepth 100000 in
theorem gv_165_46 : g_okc cL_law gi_165_46 = true := by decide +kernel
def gi_165_47 : List (Nat × Instr × Nat) := [(1505, .aload_n 3, 1), (1506, .iconst 0, 1), (1507, .laload, 1), (1508, .iload 6, 2), (1510, .i2l, 1), (1511, .lcmp, 1), (1512, .ifCond .eq 5, 3), (1515, .iconst 0, 1), (1516, .ireturn, 1), (1517, .goto 282, 3), (1520, .aload_n 1, 1), (1521, .invokevirtual 169, 3), (1524, .dstore 5, 2), (1526, .aload_n 2, 1), (1527, .invokevirtual 173, 3), (1530, .dstore 7, 2), (1532, .dload 5, 2), (1534, .dload 7, 2)]
set_option maxRecDepth 100000 in
theorem gv_165_47 : g_okc cL_law gi_165_47 = true := by decide +kernel
def gi_165_48 : List (Nat × Instr × Nat) := [(1536, .dcmp .l, 1), (1537, .ifCond .eq 21, 3), (1540, .dload 5, 2), (1542, .dload 5, 2), (1544, .dcmp .l, 1), (1545, .ifCond .eq 11, 3), (1548, .dload 7, 2), (1550, .dload 7, 2), (1552, .dcmp .l, 1), (1553, .ifCond .ne 5, 3), (1556, .iconst 0, 1), (1557, .ireturn, 1), (1558, .goto 241, 3), (1561, .aload_n 1, 1), (1562, .aload_n 0, 1), (1563, .iload 4, 2), (1565, .iconst 1, 1), (1566, .iadd, 1), (1567, .iaload, 1)]
set_option maxRecDepth 100000 in
theorem gv_165_48 : g_okc cL_law gi_165_48 = true := by decide +kernel
def gi_165_49 : List (Nat × Instr × Nat) := [(1568, .aload_n 3, 1), (1569, .invokestatic 174, 3), (1572, .istore 5, 2), (1574, .aload_n 2, 1), (1575, .aload_n 0, 1), (1576, .iload 4, 2), (1578, .iconst 1, 1), (1579, .iadd, 1), (1580, .iaload, 1), (1581, .invokevirtual 176, 3), (1584, .istore 6, 2), (1586, .aload_n 2, 1), (1587, .invokevirtual 104, 3), (1590, .iload 5, 2), (1592, .if_icmp .eq 5, 3), (1595, .iconst 0, 1), (1596, .ireturn, 1), (1597, .iload 5, 2), (1599, .ifCond .ne 15, 3)]
set_option maxRecDepth 100000 in
theorem gv_165_49 : g_okc cL_law gi_165_49 = true := by decide +kernel
def gi_165_50 : List (Nat × Instr × Nat) := [(1602, .aload_n 3, 1), (1603, .iconst 0, 1), (1604, .laload, 1), (1605, .iload 6, 2), (1607, .i2l, 1), (1608, .lcmp, 1), (1609, .ifCond .eq 5, 3), (1612, .iconst 0, 1), (1613, .ireturn, 1), (1614, .goto 185, 3), (1617, .aload_n 1, 1), (1618, .aload_n 0, 1), (1619, .iload 4, 2), (1621, .iconst 1, 1), (1622, .iadd, 1), (1623, .iaload, 1), (1624, .aload_n 3, 1), (1625, .invokestatic 177, 3), (1628, .istore 5, 2), (1630, .aload_n 2, 1), (1631, .aload_n 0, 1)]
set_option maxRecDepth 100000 in
theorem gv_165_50 : g_okc cL_law gi_165_50 = true := by decide +kernel
def gi_165_51 : List (Nat × Instr × Nat) := [(1632, .iload 4, 2), (1634, .iconst 1, 1), (1635, .iadd, 1), (1636, .iaload, 1), (1637, .invokevirtual 179, 3), (1640, .istore 6, 2), (1642, .aload_n 2, 1), (1643, .invokevirtual 104, 3), (1646, .iload 5, 2), (1648, .if_icmp .eq 5, 3), (1651, .iconst 0, 1), (1652, .ireturn, 1), (1653, .iload 5, 2), (1655, .ifCond .ne 15, 3), (1658, .aload_n 3, 1), (1659, .iconst 0, 1), (1660, .laload, 1), (1661, .iload 6, 2), (1663, .i2l, 1)]
set_option maxRecDepth 100000 in
theorem gv_165_51 : g_okc cL_law gi_165_51 = true := by decide +kernel
def gi_165_52 : List (Nat × Instr × Nat) := [(1664, .lcmp, 1), (1665, .ifCond .eq 5, 3), (1668, .iconst 0, 1), (1669, .ireturn, 1), (1670, .goto 129, 3), (1673, .aload_n 1, 1), (1674, .aload_n 0, 1), (1675, .iload 4, 2), (1677, .iconst 1, 1), (1678, .iadd, 1), (1679, .iaload, 1), (1680, .aload_n 3, 1), (1681, .invokestatic 180, 3), (1684, .istore 5, 2), (1686, .aload_n 2, 1), (1687, .aload_n 0, 1), (1688, .iload 4, 2), (1690, .iconst 1, 1), (1691, .iadd, 1), (1692, .iaload, 1), (1693, .invokevirtual 182, 3)]
set_option maxRecDepth 100000 in
theorem gv_165_52 : g_okc cL_law gi_165_52 = true := by decide +kernel
def gi_165_53 : List (Nat × Instr × Nat) := [(1696, .istore 6, 2), (1698, .aload_n 2, 1), (1699, .invokevirtual 104, 3), (1702, .iload 5, 2), (1704, .if_icmp .eq 5, 3), (1707, .iconst 0, 1), (1708, .ireturn, 1), (1709, .iload 5, 2), (1711, .ifCond .ne 15, 3), (1714, .aload_n 3, 1), (1715, .iconst 0, 1), (1716, .laload, 1), (1717, .iload 6, 2), (1719, .i2l, 1), (1720, .lcmp, 1), (1721, .ifCond .eq 5, 3), (1724, .iconst 0, 1), (1725, .ireturn, 1), (1726, .goto 73, 3)]
set_option maxRecDepth 100000 in
theorem gv_165_53 : g_okc cL_law gi_165_53 = true := by decide +kernel
def gi_165_54 : List (Nat × Instr × Nat) := [(1729, .aload_n 1, 1), (1730, .aload_n 0, 1), (1731, .iload 4, 2), (1733, .iconst 1, 1), (1734, .iadd, 1), (1735, .iaload, 1), (1736, .aload_n 3, 1), (1737, .invokestatic 183, 3), (1740, .istore 5, 2), (1742, .aload_n 2, 1), (1743, .aload_n 0, 1), (1744, .iload 4, 2), (1746, .iconst 1, 1), (1747, .iadd, 1), (1748, .iaload, 1), (1749, .invokevirtual 185, 3), (1752, .istore 6, 2), (1754, .aload_n 2, 1), (1755, .invokevirtual 104, 3), (1758, .iload 5, 2)]
set_option maxRecDepth 100000 in
theorem gv_165_54 : g_okc cL_law gi_165_54 = true := by decide +kernel
def gi_165_55 : List (Nat × Instr × Nat) := [(1760, .if_icmp .eq 5, 3), (1763, .iconst 0, 1), (1764, .ireturn, 1), (1765, .iload 5, 2), (1767, .ifCond .ne 15, 3), (1770, .aload_n 3, 1), (1771, .iconst 0, 1), (1772, .laload, 1), (1773, .iload 6, 2), (1775, .i2l, 1), (1776, .lcmp, 1), (1777, .ifCond .eq 5, 3), (1780, .iconst 0, 1), (1781, .ireturn, 1), (1782, .goto 17, 3), (1785, .aload_n 1, 1), (1786, .invokevirtual 186, 3), (1789, .aload_n 2, 1), (1790, .invokevirtual 190, 3)]
set_option maxRecDepth 100000 in
theorem gv_165_55 : g_okc cL_law gi_165_55 = true := by decide +kernel
def gi_165_56 : List (Nat × Instr × Nat) := [(1793, .lcmp, 1), (1794, .ifCond .eq 5, 3), (1797, .iconst 0, 1), (1798, .ireturn, 1), (1799, .iinc 4 6, 3), (1802, .goto (-1779), 3), (1805, .iconst 1, 1), (1806, .ireturn, 1)]
set_option maxRecDepth 100000 in
theorem gv_165_56 : g_okc cL_law gi_165_56 = true := by decide +kernel
def gi_165 : List (List (Nat × Instr × Nat)) := [gi_165_0, gi_165_1, gi_165_2, gi_165_3, gi_165_4, gi_165_5, gi_165_6, gi_165_7, gi_165_8, gi_165_9, gi_165_10, gi_165_11, gi_165_12, gi_165_13, gi_165_14, gi_165_15, gi_165_16, gi_165_17, gi_165_18, gi_165_19, gi_165_20, gi_165_21, gi_165_22, gi_165_23, gi_165_24, gi_165_25, gi_165_26, gi_165_27, gi_165_28, gi_165_29, gi_165_30, gi_165_31, gi_165_32, gi_165_33, gi_165_34, gi_165_35, gi_165_36, gi_165_37, gi_165_38, gi_165_39, gi_165_40, gi_165_41, gi_165_42, gi_165_43, gi_165_44, gi_165_45, gi_165_46, gi_165_47, gi_165_48, gi_165_49, gi_165_50, gi_165_51, gi_165_52, gi_165_53, gi_165_54, gi_165_55, gi_165_56]
theorem gv_165 : ∀ ch ∈ gi_165, g_okc cL_law ch = true := List.forall_mem_cons.mpr ⟨gv_165_0, List.forall_mem_cons.mpr ⟨gv_165_1, List.forall_mem_cons.mpr ⟨gv_165_2, List.forall_mem_cons.mpr ⟨gv_165_3, List.forall_mem_cons.mpr ⟨gv_165_4, List.forall_mem_cons.mpr ⟨gv_165_5, List.forall_mem_cons.mpr ⟨gv_165_6, List.forall_mem_cons.mpr ⟨gv_165_7, List.forall_mem_cons.mpr ⟨gv_165_8, List.forall_mem_cons.mpr ⟨gv_165_9, List.forall_mem_cons.mpr ⟨gv_165_10, List.forall_mem_cons.mpr ⟨gv_165_11, List.forall_mem_cons.mpr ⟨gv_165_12, List.forall_mem_cons.mpr ⟨gv_165_13, List.forall_mem_cons.mpr ⟨gv_165_14, List.forall_mem_cons.mpr ⟨gv_165_15, List.forall_mem_cons.mpr ⟨gv_165_16, List.forall_mem_cons.mpr ⟨gv_165_17, List.forall_mem_cons.mpr ⟨gv_165_18, List.forall_mem_cons.mpr ⟨gv_165_19, List.forall_mem_cons.mpr ⟨gv_165_20, List.forall_mem_cons.mpr ⟨gv_165_21, List.forall_mem_cons.mpr ⟨gv_165_22, List.forall_mem_cons.mpr ⟨gv_165_23, List.forall_mem_cons.mpr ⟨gv_165_24, List.forall_mem_cons.mpr ⟨gv_165_25, List.forall_mem_cons.mpr ⟨gv_165_26, List.forall_mem_cons.mpr ⟨gv_165_27, List.forall_mem_cons.mpr ⟨gv_165_28, List.forall_mem_cons.mpr ⟨gv_165_29, List.forall_mem_cons.mpr ⟨gv_165_30, List.forall_mem_cons.mpr ⟨gv_165_31, List.forall_mem_cons.mpr ⟨gv_165_32, List.forall_mem_cons.mpr ⟨gv_165_33, List.forall_mem_cons.mpr ⟨gv_165_34, List.forall_mem_cons.mpr ⟨gv_165_35, List.forall_mem_cons.mpr ⟨gv_165_36, List.forall_mem_cons.mpr ⟨gv_165_37, List.forall_mem_cons.mpr ⟨gv_165_38, List.forall_mem_cons.mpr ⟨gv_165_39, List.forall_mem_cons.mpr ⟨gv_165_40, List.forall_mem_cons.mpr ⟨gv_165_41, List.forall_mem_cons.mpr ⟨gv_165_42, List.forall_mem_cons.mpr ⟨gv_165_43, List.forall_mem_cons.mpr ⟨gv_165_44, List.forall_mem_cons.mpr ⟨gv_165_45, List.forall_mem_cons.mpr ⟨gv_165_46, List.forall_mem_cons.mpr ⟨gv_165_47, List.forall_mem_cons.mpr ⟨gv_165_48, List.forall_mem_cons.mpr ⟨gv_165_49, List.forall_mem_cons.mpr ⟨gv_165_50, List.forall_mem_cons.mpr ⟨gv_165_51, List.forall_mem_cons.mpr ⟨gv_165_52, List.forall_mem_cons.mpr ⟨gv_165_53, List.forall_mem_cons.mpr ⟨gv_165_54, List.forall_mem_cons.mpr ⟨gv_165_55, List.forall_mem_cons.mpr ⟨gv_165_56, fun _ h => absurd h List.not_mem_nil⟩⟩⟩⟩⟩⟩⟩⟩⟩⟩⟩⟩⟩⟩⟩⟩⟩⟩⟩⟩⟩⟩⟩⟩⟩⟩⟩⟩⟩⟩⟩⟩⟩⟩⟩⟩⟩⟩⟩⟩⟩⟩⟩⟩⟩⟩⟩⟩⟩⟩⟩⟩⟩⟩⟩⟩⟩
def gm_CI : List (ByteArray × List (List (Nat × Instr × Nat))) := [(cX0_init, gi_0), (cX2_init, gi_1), (cX1_init, gi_2), (cX4_init, gi_3), (cX3_init, gi_4), (cX5_init, gi_5), (cJxa1e45_init_da8c8, gi_6), (cJxc12de_init_da8c8, gi_7), (cJx4a65c_init_da8c8, gi_8), (cX6_init, gi_9), (cX7_init, gi_10), (cX5_bar, gi_11), (cL_bar, gi_12), (cX7_is, gi_13), (cX7_refuse, gi_14), (cJx4a65c_size_8abf5, gi_15), (cJ8_hugeLength_7cf53, gi_16), (cJ8_newLength_cabcc, gi_17), (cJ7_copyOf_6403c, gi_18), (cJ7_copyOf_1904c, gi_19), (cJx4a65c_grow_92f84, gi_20), (cJx4a65c_grow_d5877, gi_21), (cJx4a65c_add_72be8, gi_22), (cJx4a65c_add_9ea2d, gi_23), (cX7_bar, gi_24), (cX7_thrown, gi_25), (cX5_piece, gi_26), (cL_piece, gi_27), (cX7_piece, gi_28), (cX5_cue, gi_29), (cL_cue, gi_30), (cX7_cue, gi_31), (cX4_cueAt, gi_32), (cX4_barAt, gi_33), (cX1_hasMoveOf, gi_34), (cX5_move, gi_35), (cL_move, gi_36), (cX7_isCue, gi_37), (cX7_isBar, gi_38), (cJ3_checkIndex_8e157, gi_39), (cJ15_checkIndex_7cf53, gi_40), (cJx4a65c_elementData_915e3, gi_41), (cJx4a65c_get_915e3, gi_42), (cJx35411_init_45d68, gi_43), (cJx4a65c_iterator_32c93, gi_44), (cJx35411_hasNext_aae02, gi_45), (cX7_move, gi_46), (cX5_crew, gi_47), (cL_crew, gi_48), (cX7_crew, gi_49), (cX5_below, gi_50), (cL_below, gi_51), (cX7_below, gi_52), (cX5_pieceAt, gi_53), (cX5_refuseUnlessAtRest, gi_54), (cX5_weigh, gi_55), (cX5_hang, gi_56), (cL_hang, gi_57), (cX7_isPiece, gi_58), (cX7_isLow, gi_59), (cX7_weigh, gi_60), (cX7_hang, gi_61), (cX5_take, gi_62), (cL_take, gi_63), (cX7_take, gi_64), (cX0_difference, gi_65), (cX5_counter, gi_66), (cL_counter, gi_67), (cX6_difference, gi_68), (cX7_counter, gi_69), (cX1_openAll, gi_70), (cX4_begin, gi_71), (cX5_go, gi_72), (cL_go, gi_73), (cX6_begin, gi_74), (cX7_go, gi_75), (cX5_refuseUnlessRunning, gi_76), (cX5_stop, gi_77), (cL_stop, gi_78), (cX7_stop, gi_79), (cX1_openMoves, gi_80), (cX4_openMoves, gi_81), (cX4_rest, gi_82), (cX5_end, gi_83), (cL_end, gi_84), (cX6_open, gi_85), (cX6_end, gi_86), (cX7_end, gi_87), (cX5_brake, gi_88), (cL_brake, gi_89), (cX7_brake, gi_90), (cX0_differenceWithoutSign, gi_91), (cX4_mayGo, gi_92), (cX0_touchesAt, gi_93), (cX4_touchesAnew, gi_94), (cX0_goTo, gi_95), (cX4_goNearer, gi_96), (cX4_playMoves, gi_97), (cX4_judgeRun, gi_98), (cX4_runAway, gi_99), (cX4_finish, gi_100), (cX4_playSecond, gi_101), (cX5_pass, gi_102), (cL_pass, gi_103), (cX6_touches, gi_104), (cX6_isHeld, gi_105), (cX6_put, gi_106), (cX6_go, gi_107), (cX6_act, gi_108), (cX6_runAway, gi_109), (cX6_pass, gi_110), (cX7_pass, gi_111), (cX5_ofBar, gi_112), (cL_ofBar, gi_113), (cX7_ofBarNow, gi_114), (cX7_ofBar, gi_115), (cX5_ofPiece, gi_116), (cL_ofPiece, gi_117), (cX7_ofPiece, gi_118), (cX1_moveAt, gi_119), (cX5_ofMove, gi_120), (cL_ofMove, gi_121), (cX7_ofMove, gi_122), (cX5_touch, gi_123), (cL_touch, gi_124), (cX7_touch, gi_125), (cX4_brokenBrakes, gi_126), (cX5_many, gi_127), (cL_many, gi_128), (cX7_manyNow, gi_129), (cX7_many, gi_130), (cX5_meanHeight, gi_131), (cJx4a65c_isEmpty_aae02, gi_132), (cX7_meanHeight, gi_133), (cX0_copyFrom, gi_134), (cX2_copyFrom, gi_135), (cX1_copyFrom, gi_136), (cX4_copyFrom, gi_137), (cX4_mendBrakes, gi_138), (cX5_rehearse, gi_139), (cX5_secondsFor, gi_140), (cL_secondsFor, gi_141), (cX6_copy, gi_142), (cX7_played, gi_143), (cX7_secondsNow, gi_144), (cX7_secondsFor, gi_145), (cX5_stopsAt, gi_146), (cL_stopsAt, gi_147), (cX7_stopsAt, gi_148), (cX5_wouldHurt, gi_149), (cL_wouldHurt, gi_150), (cX7_hurtNow, gi_151), (cX7_wouldHurt, gi_152), (cX5_isIn, gi_153), (cX5_isBehindFormer, gi_154), (cX5_smallestPlace, gi_155), (cX5_fits, gi_156), (cL_fits, gi_157), (cX7_canLie, gi_158), (cX7_fitsNow, gi_159), (cX7_fits, gi_160), (cX5_digestOfMoves, gi_161), (cX5_digest, gi_162), (cX7_add, gi_163), (cX7_digest, gi_164), (cL_law, gi_165)]
set_option maxRecDepth 100000 in
theorem gv_all : ∀ q ∈ gm_CI, ∀ ch ∈ q.2, g_okc q.1 ch = true := List.forall_mem_cons.mpr ⟨gv_0, List.forall_mem_cons.mpr ⟨gv_1, List.forall_mem_cons.mpr ⟨gv_2, List.forall_mem_cons.mpr ⟨gv_3, List.forall_mem_cons.mpr ⟨gv_4, List.forall_mem_cons.mpr ⟨gv_5, List.forall_mem_cons.mpr ⟨gv_6, List.forall_mem_cons.mpr ⟨gv_7, List.forall_mem_cons.mpr ⟨gv_8, List.forall_mem_cons.mpr ⟨gv_9, List.forall_mem_cons.mpr ⟨gv_10, List.forall_mem_cons.mpr ⟨gv_11, List.forall_mem_cons.mpr ⟨gv_12, List.forall_mem_cons.mpr ⟨gv_13, List.forall_mem_cons.mpr ⟨gv_14, List.forall_mem_cons.mpr ⟨gv_15, List.forall_mem_cons.mpr ⟨gv_16, List.forall_mem_cons.mpr ⟨gv_17, List.forall_mem_cons.mpr ⟨gv_18, List.forall_mem_cons.mpr ⟨gv_19, List.forall_mem_cons.mpr ⟨gv_20, List.forall_mem_cons.mpr ⟨gv_21, List.forall_mem_cons.mpr ⟨gv_22, List.forall_mem_cons.mpr ⟨gv_23, List.forall_mem_cons.mpr ⟨gv_24, List.forall_mem_cons.mpr ⟨gv_25, List.forall_mem_cons.mpr ⟨gv_26, List.forall_mem_cons.mpr ⟨gv_27, List.forall_mem_cons.mpr ⟨gv_28, List.forall_mem_cons.mpr ⟨gv_29, List.forall_mem_cons.mpr ⟨gv_30, List.forall_mem_cons.mpr ⟨gv_31, List.forall_mem_cons.mpr ⟨gv_32, List.forall_mem_cons.mpr ⟨gv_33, List.forall_mem_cons.mpr ⟨gv_34, List.forall_mem_cons.mpr ⟨gv_35, List.forall_mem_cons.mpr ⟨gv_36, List.forall_mem_cons.mpr ⟨gv_37, List.forall_mem_cons.mpr ⟨gv_38, List.forall_mem_cons.mpr ⟨gv_39, List.forall_mem_cons.mpr ⟨gv_40, List.forall_mem_cons.mpr ⟨gv_41, List.forall_mem_cons.mpr ⟨gv_42, List.forall_mem_cons.mpr ⟨gv_43, List.forall_mem_cons.mpr ⟨gv_44, List.forall_mem_cons.mpr ⟨gv_45, List.forall_mem_cons.mpr ⟨gv_46, List.forall_mem_cons.mpr ⟨gv_47, List.forall_mem_cons.mpr ⟨gv_48, List.forall_mem_cons.mpr ⟨gv_49, List.forall_mem_cons.mpr ⟨gv_50, List.forall_mem_cons.mpr ⟨gv_51, List.forall_mem_cons.mpr ⟨gv_52, List.forall_mem_cons.mpr ⟨gv_53, List.forall_mem_cons.mpr ⟨gv_54, List.forall_mem_cons.mpr ⟨gv_55, List.forall_mem_cons.mpr ⟨gv_56, List.forall_mem_cons.mpr ⟨gv_57, List.forall_mem_cons.mpr ⟨gv_58, List.forall_mem_cons.mpr ⟨gv_59, List.forall_mem_cons.mpr ⟨gv_60, List.forall_mem_cons.mpr ⟨gv_61, List.forall_mem_cons.mpr ⟨gv_62, List.forall_mem_cons.mpr ⟨gv_63, List.forall_mem_cons.mpr ⟨gv_64, List.forall_mem_cons.mpr ⟨gv_65, List.forall_mem_cons.mpr ⟨gv_66, List.forall_mem_cons.mpr ⟨gv_67, List.forall_mem_cons.mpr ⟨gv_68, List.forall_mem_cons.mpr ⟨gv_69, List.forall_mem_cons.mpr ⟨gv_70, List.forall_mem_cons.mpr ⟨gv_71, List.forall_mem_cons.mpr ⟨gv_72, List.forall_mem_cons.mpr ⟨gv_73, List.forall_mem_cons.mpr ⟨gv_74, List.forall_mem_cons.mpr ⟨gv_75, List.forall_mem_cons.mpr ⟨gv_76, List.forall_mem_cons.mpr ⟨gv_77, List.forall_mem_cons.mpr ⟨gv_78, List.forall_mem_cons.mpr ⟨gv_79, List.forall_mem_cons.mpr ⟨gv_80, List.forall_mem_cons.mpr ⟨gv_81, List.forall_mem_cons.mpr ⟨gv_82, List.forall_mem_cons.mpr ⟨gv_83, List.forall_mem_cons.mpr ⟨gv_84, List.forall_mem_cons.mpr ⟨gv_85, List.forall_mem_cons.mpr ⟨gv_86, List.forall_mem_cons.mpr ⟨gv_87, List.forall_mem_cons.mpr ⟨gv_88, List.forall_mem_cons.mpr ⟨gv_89, List.forall_mem_cons.mpr ⟨gv_90, List.forall_mem_cons.mpr ⟨gv_91, List.forall_mem_cons.mpr ⟨gv_92, List.forall_mem_cons.mpr ⟨gv_93, List.forall_mem_cons.mpr ⟨gv_94, List.forall_mem_cons.mpr ⟨gv_95, List.forall_mem_cons.mpr ⟨gv_96, List.forall_mem_cons.mpr ⟨gv_97, List.forall_mem_cons.mpr ⟨gv_98, List.forall_mem_cons.mpr ⟨gv_99, List.forall_mem_cons.mpr ⟨gv_100, List.forall_mem_cons.mpr ⟨gv_101, List.forall_mem_cons.mpr ⟨gv_102, List.forall_mem_cons.mpr ⟨gv_103, List.forall_mem_cons.mpr ⟨gv_104, List.forall_mem_cons.mpr ⟨gv_105, List.forall_mem_cons.mpr ⟨gv_106, List.forall_mem_cons.mpr ⟨gv_107, List.forall_mem_cons.mpr ⟨gv_108, List.forall_mem_cons.mpr ⟨gv_109, List.forall_mem_cons.mpr ⟨gv_110, List.forall_mem_cons.mpr ⟨gv_111, List.forall_mem_cons.mpr ⟨gv_112, List.forall_mem_cons.mpr ⟨gv_113, List.forall_mem_cons.mpr ⟨gv_114, List.forall_mem_cons.mpr ⟨gv_115, List.forall_mem_cons.mpr ⟨gv_116, List.forall_mem_cons.mpr ⟨gv_117, List.forall_mem_cons.mpr ⟨gv_118, List.forall_mem_cons.mpr ⟨gv_119, List.forall_mem_cons.mpr ⟨gv_120, List.forall_mem_cons.mpr ⟨gv_121, List.forall_mem_cons.mpr ⟨gv_122, List.forall_mem_cons.mpr ⟨gv_123, List.forall_mem_cons.mpr ⟨gv_124, List.forall_mem_cons.mpr ⟨gv_125, List.forall_mem_cons.mpr ⟨gv_126, List.forall_mem_cons.mpr ⟨gv_127, List.forall_mem_cons.mpr ⟨gv_128, List.forall_mem_cons.mpr ⟨gv_129, List.forall_mem_cons.mpr ⟨gv_130, List.forall_mem_cons.mpr ⟨gv_131, List.forall_mem_cons.mpr ⟨gv_132, List.forall_mem_cons.mpr ⟨gv_133, List.forall_mem_cons.mpr ⟨gv_134, List.forall_mem_cons.mpr ⟨gv_135, List.forall_mem_cons.mpr ⟨gv_136, List.forall_mem_cons.mpr ⟨gv_137, List.forall_mem_cons.mpr ⟨gv_138, List.forall_mem_cons.mpr ⟨gv_139, List.forall_mem_cons.mpr ⟨gv_140, List.forall_mem_cons.mpr ⟨gv_141, List.forall_mem_cons.mpr ⟨gv_142, List.forall_mem_cons.mpr ⟨gv_143, List.forall_mem_cons.mpr ⟨gv_144, List.forall_mem_cons.mpr ⟨gv_145, List.forall_mem_cons.mpr ⟨gv_146, List.forall_mem_cons.mpr ⟨gv_147, List.forall_mem_cons.mpr ⟨gv_148, List.forall_mem_cons.mpr ⟨gv_149, List.forall_mem_cons.mpr ⟨gv_150, List.forall_mem_cons.mpr ⟨gv_151, List.forall_mem_cons.mpr ⟨gv_152, List.forall_mem_cons.mpr ⟨gv_153, List.forall_mem_cons.mpr ⟨gv_154, List.forall_mem_cons.mpr ⟨gv_155, List.forall_mem_cons.mpr ⟨gv_156, List.forall_mem_cons.mpr ⟨gv_157, List.forall_mem_cons.mpr ⟨gv_158, List.forall_mem_cons.mpr ⟨gv_159, List.forall_mem_cons.mpr ⟨gv_160, List.forall_mem_cons.mpr ⟨gv_161, List.forall_mem_cons.mpr ⟨gv_162, List.forall_mem_cons.mpr ⟨gv_163, List.forall_mem_cons.mpr ⟨gv_164, List.forall_mem_cons.mpr ⟨gv_165, fun _ h => absurd h List.not_mem_nil⟩⟩⟩⟩⟩⟩⟩⟩⟩⟩⟩⟩⟩⟩⟩⟩⟩⟩⟩⟩⟩⟩⟩⟩⟩⟩⟩⟩⟩⟩⟩⟩⟩⟩⟩⟩⟩⟩⟩⟩⟩⟩⟩⟩⟩⟩⟩⟩⟩⟩⟩⟩⟩⟩⟩⟩⟩⟩⟩⟩⟩⟩⟩⟩⟩⟩⟩⟩⟩⟩⟩⟩⟩⟩⟩⟩⟩⟩⟩⟩⟩⟩⟩⟩⟩⟩⟩⟩⟩⟩⟩⟩⟩⟩⟩⟩⟩⟩⟩⟩⟩⟩⟩⟩⟩⟩⟩⟩⟩⟩⟩⟩⟩⟩⟩⟩⟩⟩⟩⟩⟩⟩⟩⟩⟩⟩⟩⟩⟩⟩⟩⟩⟩⟩⟩⟩⟩⟩⟩⟩⟩⟩⟩⟩⟩⟩⟩⟩⟩⟩⟩⟩⟩⟩⟩⟩⟩⟩⟩⟩⟩⟩⟩⟩⟩⟩
end
section
/-! THE TABLES, by program (wip/whole/gen_tables.py) out of the claim -/
def gm_N : List (MethodName) := [⟨"FlyTower$Bar", "<init>", "(I)V"⟩, ⟨"FlyTower$Move", "<init>", "()V"⟩, ⟨"FlyTower$Cue", "<init>", "()V"⟩, ⟨"FlyTower$Rig", "<init>", "()V"⟩, ⟨"FlyTower$Piece", "<init>", "()V"⟩, ⟨"FlyTower", "<init>", "()V"⟩, ⟨"java/util/AbstractCollection", "<init>", "()V"⟩, ⟨"java/util/AbstractList", "<init>", "()V"⟩, ⟨"java/util/ArrayList", "<init>", "()V"⟩, ⟨"FlyTowerModel$Tower", "<init>", "()V"⟩, ⟨"FlyTowerModel", "<init>", "()V"⟩, ⟨"FlyTower", "bar", "(ZI)I"⟩, ⟨"FlyTowerLaw", "bar", "(LFlyTower;ZI[J)I"⟩, ⟨"FlyTowerModel", "is", "(III)Z"⟩, ⟨"FlyTowerModel", "refuse", "(I)I"⟩, ⟨"java/util/ArrayList", "size", "()I"⟩, ⟨"jdk/internal/util/ArraysSupport", "hugeLength", "(II)I"⟩, ⟨"jdk/internal/util/ArraysSupport", "newLength", "(III)I"⟩, ⟨"java/util/Arrays", "copyOf", "([Ljava/lang/Object;ILjava/lang/Class;)[Ljava/lang/Object;"⟩, ⟨"java/util/Arrays", "copyOf", "([Ljava/lang/Object;I)[Ljava/lang/Object;"⟩, ⟨"java/util/ArrayList", "grow", "(I)[Ljava/lang/Object;"⟩, ⟨"java/util/ArrayList", "grow", "()[Ljava/lang/Object;"⟩, ⟨"java/util/ArrayList", "add", "(Ljava/lang/Object;[Ljava/lang/Object;I)V"⟩, ⟨"java/util/ArrayList", "add", "(Ljava/lang/Object;)Z"⟩, ⟨"FlyTowerModel", "bar", "(ZI)I"⟩, ⟨"FlyTowerModel", "thrown", "()I"⟩, ⟨"FlyTower", "piece", "(III)I"⟩, ⟨"FlyTowerLaw", "piece", "(LFlyTower;III[J)I"⟩, ⟨"FlyTowerModel", "piece", "(III)I"⟩, ⟨"FlyTower", "cue", "(I)I"⟩, ⟨"FlyTowerLaw", "cue", "(LFlyTower;I[J)I"⟩, ⟨"FlyTowerModel", "cue", "(I)I"⟩, ⟨"FlyTower$Rig", "cueAt", "(I)LFlyTower$Cue;"⟩, ⟨"FlyTower$Rig", "barAt", "(I)LFlyTower$Bar;"⟩, ⟨"FlyTower$Cue", "hasMoveOf", "(I)Z"⟩, ⟨"FlyTower", "move", "(IIIII)I"⟩, ⟨"FlyTowerLaw", "move", "(LFlyTower;IIIII[J)I"⟩, ⟨"FlyTowerModel", "isCue", "(I)Z"⟩, ⟨"FlyTowerModel", "isBar", "(I)Z"⟩, ⟨"jdk/internal/util/Preconditions", "checkIndex", "(IILjava/util/function/BiFunction;)I"⟩, ⟨"java/util/Objects", "checkIndex", "(II)I"⟩, ⟨"java/util/ArrayList", "elementData", "(I)Ljava/lang/Object;"⟩, ⟨"java/util/ArrayList", "get", "(I)Ljava/lang/Object;"⟩, ⟨"java/util/ArrayList$Itr", "<init>", "(Ljava/util/ArrayList;)V"⟩, ⟨"java/util/ArrayList", "iterator", "()Ljava/util/Iterator;"⟩, ⟨"java/util/ArrayList$Itr", "hasNext", "()Z"⟩, ⟨"FlyTowerModel", "move", "(IIIII)I"⟩, ⟨"FlyTower", "crew", "(I)I"⟩, ⟨"FlyTowerLaw", "crew", "(LFlyTower;I[J)I"⟩, ⟨"FlyTowerModel", "crew", "(I)I"⟩, ⟨"FlyTower", "below", "(IZZ)Z"⟩, ⟨"FlyTowerLaw", "below", "(LFlyTower;IZZ[J)I"⟩, ⟨"FlyTowerModel", "below", "(IZZ)Z"⟩, ⟨"FlyTower", "pieceAt", "(I)LFlyTower$Piece;"⟩, ⟨"FlyTower", "refuseUnlessAtRest", "(LFlyTower$Bar;)V"⟩, ⟨"FlyTower", "weigh", "(LFlyTower$Bar;)V"⟩, ⟨"FlyTower", "hang", "(II)I"⟩, ⟨"FlyTowerLaw", "hang", "(LFlyTower;II[J)I"⟩, ⟨"FlyTowerModel", "isPiece", "(I)Z"⟩, ⟨"FlyTowerModel", "isLow", "(I)Z"⟩, ⟨"FlyTowerModel", "weigh", "(I)V"⟩, ⟨"FlyTowerModel", "hang", "(II)I"⟩, ⟨"FlyTower", "take", "(I)I"⟩, ⟨"FlyTowerLaw", "take", "(LFlyTower;I[J)I"⟩, ⟨"FlyTowerModel", "take", "(I)I"⟩, ⟨"FlyTower$Bar", "difference", "()I"⟩, ⟨"FlyTower", "counter", "(II)I"⟩, ⟨"FlyTowerLaw", "counter", "(LFlyTower;II[J)I"⟩, ⟨"FlyTowerModel$Tower", "difference", "([I)I"⟩, ⟨"FlyTowerModel", "counter", "(II)I"⟩, ⟨"FlyTower$Cue", "openAll", "()V"⟩, ⟨"FlyTower$Rig", "begin", "(I)V"⟩, ⟨"FlyTower", "go", "(I)I"⟩, ⟨"FlyTowerLaw", "go", "(LFlyTower;I[J)I"⟩, ⟨"FlyTowerModel$Tower", "begin", "(I)V"⟩, ⟨"FlyTowerModel", "go", "(I)I"⟩, ⟨"FlyTower", "refuseUnlessRunning", "()V"⟩, ⟨"FlyTower", "stop", "(Z)Z"⟩, ⟨"FlyTowerLaw", "stop", "(LFlyTower;Z[J)I"⟩, ⟨"FlyTowerModel", "stop", "(Z)Z"⟩, ⟨"FlyTower$Cue", "openMoves", "()I"⟩, ⟨"FlyTower$Rig", "openMoves", "()I"⟩, ⟨"FlyTower$Rig", "rest", "()V"⟩, ⟨"FlyTower", "end", "()I"⟩, ⟨"FlyTowerLaw", "end", "(LFlyTower;[J)I"⟩, ⟨"FlyTowerModel$Tower", "open", "()I"⟩, ⟨"FlyTowerModel$Tower", "end", "()V"⟩, ⟨"FlyTowerModel", "end", "()I"⟩, ⟨"FlyTower", "brake", "(IZ)Z"⟩, ⟨"FlyTowerLaw", "brake", "(LFlyTower;IZ[J)I"⟩, ⟨"FlyTowerModel", "brake", "(IZ)Z"⟩, ⟨"FlyTower$Bar", "differenceWithoutSign", "()I"⟩, ⟨"FlyTower$Rig", "mayGo", "(LFlyTower$Move;LFlyTower$Bar;)Z"⟩, ⟨"FlyTower$Bar", "touchesAt", "(ILFlyTower$Bar;)Z"⟩, ⟨"FlyTower$Rig", "touchesAnew", "(LFlyTower$Bar;I)Z"⟩, ⟨"FlyTower$Bar", "goTo", "(I)V"⟩, ⟨"FlyTower$Rig", "goNearer", "(LFlyTower$Move;LFlyTower$Bar;)V"⟩, ⟨"FlyTower$Rig", "playMoves", "(LFlyTower$Cue;)V"⟩, ⟨"FlyTower$Rig", "judgeRun", "(LFlyTower$Bar;I)V"⟩, ⟨"FlyTower$Rig", "runAway", "(LFlyTower$Bar;)V"⟩, ⟨"FlyTower$Rig", "finish", "(I)V"⟩, ⟨"FlyTower$Rig", "playSecond", "()V"⟩, ⟨"FlyTower", "pass", "(I)I"⟩, ⟨"FlyTowerLaw", "pass", "(LFlyTower;I[J)I"⟩, ⟨"FlyTowerModel$Tower", "touches", "(III)Z"⟩, ⟨"FlyTowerModel$Tower", "isHeld", "(II)Z"⟩, ⟨"FlyTowerModel$Tower", "put", "(II)V"⟩, ⟨"FlyTowerModel$Tower", "go", "([I)I"⟩, ⟨"FlyTowerModel$Tower", "act", "()I"⟩, ⟨"FlyTowerModel$Tower", "runAway", "(I)V"⟩, ⟨"FlyTowerModel$Tower", "pass", "()I"⟩, ⟨"FlyTowerModel", "pass", "(I)I"⟩, ⟨"FlyTower", "ofBar", "(II)I"⟩, ⟨"FlyTowerLaw", "ofBar", "(LFlyTower;II[J)I"⟩, ⟨"FlyTowerModel", "ofBarNow", "(II)I"⟩, ⟨"FlyTowerModel", "ofBar", "(II)I"⟩, ⟨"FlyTower", "ofPiece", "(II)I"⟩, ⟨"FlyTowerLaw", "ofPiece", "(LFlyTower;II[J)I"⟩, ⟨"FlyTowerModel", "ofPiece", "(II)I"⟩, ⟨"FlyTower$Cue", "moveAt", "(I)LFlyTower$Move;"⟩, ⟨"FlyTower", "ofMove", "(III)I"⟩, ⟨"FlyTowerLaw", "ofMove", "(LFlyTower;III[J)I"⟩, ⟨"FlyTowerModel", "ofMove", "(III)I"⟩, ⟨"FlyTower", "touch", "(II)Z"⟩, ⟨"FlyTowerLaw", "touch", "(LFlyTower;II[J)I"⟩, ⟨"FlyTowerModel", "touch", "(II)Z"⟩, ⟨"FlyTower$Rig", "brokenBrakes", "()I"⟩, ⟨"FlyTower", "many", "(I)I"⟩, ⟨"FlyTowerLaw", "many", "(LFlyTower;I[J)I"⟩, ⟨"FlyTowerModel", "manyNow", "(I)I"⟩, ⟨"FlyTowerModel", "many", "(I)I"⟩, ⟨"FlyTower", "meanHeight", "()D"⟩, ⟨"java/util/ArrayList", "isEmpty", "()Z"⟩, ⟨"FlyTowerModel", "meanHeight", "()D"⟩, ⟨"FlyTower$Bar", "copyFrom", "(LFlyTower$Bar;)V"⟩, ⟨"FlyTower$Move", "copyFrom", "(LFlyTower$Move;)V"⟩, ⟨"FlyTower$Cue", "copyFrom", "(LFlyTower$Cue;)V"⟩, ⟨"FlyTower$Rig", "copyFrom", "(LFlyTower$Rig;)V"⟩, ⟨"FlyTower$Rig", "mendBrakes", "()V"⟩, ⟨"FlyTower", "rehearse", "(I)I"⟩, ⟨"FlyTower", "secondsFor", "(I)I"⟩, ⟨"FlyTowerLaw", "secondsFor", "(LFlyTower;I[J)I"⟩, ⟨"FlyTowerModel$Tower", "copy", "()LFlyTowerModel$Tower;"⟩, ⟨"FlyTowerModel", "played", "(I)LFlyTowerModel$Tower;"⟩, ⟨"FlyTowerModel", "secondsNow", "(I)I"⟩, ⟨"FlyTowerModel", "secondsFor", "(I)I"⟩, ⟨"FlyTower", "stopsAt", "(I)I"⟩, ⟨"FlyTowerLaw", "stopsAt", "(LFlyTower;I[J)I"⟩, ⟨"FlyTowerModel", "stopsAt", "(I)I"⟩, ⟨"FlyTower", "wouldHurt", "(I)I"⟩, ⟨"FlyTowerLaw", "wouldHurt", "(LFlyTower;I[J)I"⟩, ⟨"FlyTowerModel", "hurtNow", "(I)I"⟩, ⟨"FlyTowerModel", "wouldHurt", "(I)I"⟩, ⟨"FlyTower", "isIn", "(II)Z"⟩, ⟨"FlyTower", "isBehindFormer", "(III)Z"⟩, ⟨"FlyTower", "smallestPlace", "(II)I"⟩, ⟨"FlyTower", "fits", "(I)I"⟩, ⟨"FlyTowerLaw", "fits", "(LFlyTower;I[J)I"⟩, ⟨"FlyTowerModel", "canLie", "(I[III)Z"⟩, ⟨"FlyTowerModel", "fitsNow", "(I)I"⟩, ⟨"FlyTowerModel", "fits", "(I)I"⟩, ⟨"FlyTower", "digestOfMoves", "(JI)J"⟩, ⟨"FlyTower", "digest", "()J"⟩, ⟨"FlyTowerModel", "add", "(I)V"⟩, ⟨"FlyTowerModel", "digest", "()J"⟩, ⟨"FlyTowerLaw", "law", "([I)Z"⟩]
def gm_L : List (Nat) := [2, 1, 2, 2, 1, 2, 1, 1, 1, 1, 1, 4, 5, 3, 2, 1, 3, 4, 4, 2, 4, 1, 4, 2, 4, 1, 5, 6, 5, 2, 4, 2, 2, 2, 3, 9, 8, 2, 2, 3, 2, 2, 2, 2, 1, 1, 10, 3, 4, 3, 6, 6, 6, 2, 2, 4, 5, 5, 2, 2, 5, 5, 4, 4, 3, 1, 4, 5, 1, 4, 2, 2, 3, 4, 4, 2, 1, 3, 4, 3, 3, 1, 1, 2, 3, 4, 1, 2, 5, 5, 4, 2, 4, 4, 4, 2, 5, 5, 4, 7, 2, 2, 4, 4, 6, 4, 4, 5, 7, 8, 3, 4, 4, 5, 5, 3, 4, 5, 3, 2, 5, 6, 4, 5, 5, 3, 3, 2, 4, 4, 2, 3, 1, 4, 2, 2, 3, 3, 2, 3, 2, 4, 7, 5, 3, 2, 2, 4, 2, 3, 4, 4, 2, 2, 6, 4, 5, 4, 7, 7, 2, 9, 5, 2, 8, 9]
def gm_R : List (Option FieldType) := [none, none, none, none, none, none, none, none, none, none, none, some (.int), some (.int), some (.boolean), some (.int), some (.int), some (.int), some (.int), some (.array (.object "java/lang/Object")), some (.array (.object "java/lang/Object")), some (.array (.object "java/lang/Object")), some (.array (.object "java/lang/Object")), none, some (.boolean), some (.int), some (.int), some (.int), some (.int), some (.int), some (.int), some (.int), some (.int), some (.object "FlyTower$Cue"), some (.object "FlyTower$Bar"), some (.boolean), some (.int), some (.int), some (.boolean), some (.boolean), some (.int), some (.int), some (.object "java/lang/Object"), some (.object "java/lang/Object"), none, some (.object "java/util/Iterator"), some (.boolean), some (.int), some (.int), some (.int), some (.int), some (.boolean), some (.int), some (.boolean), some (.object "FlyTower$Piece"), none, none, some (.int), some (.int), some (.boolean), some (.boolean), none, some (.int), some (.int), some (.int), some (.int), some (.int), some (.int), some (.int), some (.int), some (.int), none, none, some (.int), some (.int), none, some (.int), none, some (.boolean), some (.int), some (.boolean), some (.int), some (.int), none, some (.int), some (.int), some (.int), none, some (.int), some (.boolean), some (.int), some (.boolean), some (.int), some (.boolean), some (.boolean), some (.boolean), none, none, none, none, none, none, none, some (.int), some (.int), some (.boolean), some (.boolean), none, some (.int), some (.int), none, some (.int), some (.int), some (.int), some (.int), some (.int), some (.int), some (.int), some (.int), some (.int), some (.object "FlyTower$Move"), some (.int), some (.int), some (.int), some (.boolean), some (.int), some (.boolean), some (.int), some (.int), some (.int), some (.int), some (.int), some (.double), some (.boolean), some (.double), none, none, none, none, none, some (.int), some (.int), some (.int), some (.object "FlyTowerModel$Tower"), some (.object "FlyTowerModel$Tower"), some (.int), some (.int), some (.int), some (.int), some (.int), some (.int), some (.int), some (.int), some (.int), some (.boolean), some (.boolean), some (.int), some (.int), some (.int), some (.boolean), some (.int), some (.int), some (.long), some (.long), none, some (.long), some (.boolean)]
def gm_H : List (List (Nat × Nat × Nat × Nat)) := [[], [], [], [], [], [], [], [], [], [], [], [], [(0, 10, 13, 13), (0, 10, 17, 15)], [], [], [], [], [], [], [], [], [], [], [], [], [], [], [(0, 12, 15, 13), (0, 12, 19, 15)], [], [], [(0, 9, 12, 13), (0, 9, 15, 15)], [], [], [], [], [], [(0, 16, 19, 29), (0, 16, 23, 13), (0, 16, 27, 15)], [], [], [], [], [], [], [], [], [], [], [], [(0, 9, 12, 13)], [], [], [(0, 19, 22, 29)], [], [], [], [], [], [(0, 10, 13, 29), (0, 10, 17, 15)], [], [], [], [], [], [(0, 9, 12, 29), (0, 9, 15, 15)], [], [], [], [(0, 10, 13, 29), (0, 10, 17, 13), (0, 10, 21, 15)], [], [], [], [], [], [(0, 9, 12, 29), (0, 9, 15, 15)], [], [], [], [], [(0, 16, 19, 15)], [], [], [], [], [], [(0, 8, 11, 15)], [], [], [], [], [(0, 17, 20, 29)], [], [], [], [], [], [], [], [], [], [], [], [], [], [(0, 9, 12, 13), (0, 9, 15, 15)], [], [], [], [], [], [], [], [], [], [(0, 10, 13, 29), (0, 10, 17, 13)], [], [], [], [(0, 10, 13, 29), (0, 10, 17, 13)], [], [], [], [(0, 12, 15, 29), (0, 12, 19, 13)], [], [], [(0, 17, 20, 29)], [], [], [], [(0, 9, 12, 13)], [], [], [], [], [], [], [], [], [], [], [], [], [(0, 9, 12, 29)], [], [], [], [], [], [(0, 9, 12, 29)], [], [], [(0, 9, 12, 13)], [], [], [], [], [], [], [(0, 9, 12, 13)], [], [], [], [], [], [], [], []]
def gm_F : List (Nat) := [1, 1, 2, 3, 1, 4, 1, 2, 3, 4, 5, 6, 7, 0, 0, 0, 0, 1, 1, 2, 3, 4, 5, 6, 7, 0, 6, 7, 7, 6, 7, 7, 6, 6, 0, 7, 8, 1, 1, 0, 1, 0, 2, 1, 2, 0, 7, 6, 7, 1, 7, 8, 3, 6, 6, 1, 7, 8, 1, 3, 3, 4, 7, 8, 4, 0, 7, 8, 0, 4, 0, 7, 8, 9, 3, 4, 6, 7, 8, 0, 0, 7, 0, 8, 9, 3, 0, 4, 7, 8, 3, 1, 2, 0, 1, 0, 2, 7, 0, 2, 8, 9, 10, 11, 3, 4, 3, 5, 6, 5, 7, 8, 7, 8, 3, 4, 7, 8, 3, 6, 7, 8, 3, 7, 8, 4, 0, 8, 9, 4, 5, 0, 0, 3, 0, 0, 1, 2, 0, 10, 11, 12, 7, 8, 9, 10, 11, 12, 9, 10, 11, 8, 9, 0, 1, 2, 6, 7, 3, 4, 5, 8, 11, 0, 10, 13]
def gm_W : List (Nat) := [21, 21, 41, 62, 21, 83, 21, 41, 61, 81, 101, 98, 121, 0, 0, 0, 0, 22, 26, 49, 70, 93, 113, 136, 157, 0, 98, 122, 157, 98, 119, 157, 98, 98, 0, 119, 147, 22, 22, 0, 22, 0, 43, 21, 42, 0, 157, 98, 120, 22, 119, 144, 64, 98, 98, 21, 119, 143, 22, 64, 64, 88, 119, 142, 88, 0, 119, 142, 0, 85, 0, 119, 140, 162, 64, 87, 98, 118, 140, 0, 0, 119, 0, 139, 160, 64, 0, 87, 119, 143, 64, 20, 41, 0, 23, 0, 46, 119, 0, 46, 140, 161, 182, 205, 64, 89, 64, 112, 136, 112, 162, 184, 119, 142, 64, 88, 119, 142, 64, 98, 119, 143, 64, 119, 143, 89, 0, 139, 160, 87, 110, 0, 0, 62, 0, 0, 21, 43, 0, 182, 204, 225, 157, 184, 208, 230, 204, 225, 208, 182, 204, 184, 207, 0, 21, 46, 98, 122, 64, 90, 116, 143, 204, 0, 230, 257]
def gm_wc : List (Nat) := [102, 175, 168, 95, 304, 87, 827, 824, 821, 850, 815, 614, 608, 938, 942, 946, 970, 965, 993, 973, 962, 958, 954, 950, 935, 931, 638, 634, 1006, 649, 645, 1010, 358, 458, 668, 659, 654, 1018, 1022, 1032, 1029, 1036, 1026, 1045, 1040, 1069, 1014, 676, 672, 1087, 684, 680, 1091, 472, 696, 703, 691, 687, 1099, 1103, 1107, 1095, 711, 707, 1112, 463, 719, 715, 1119, 1116, 525, 521, 728, 724, 1127, 1123, 739, 735, 731, 1138, 430, 354, 583, 747, 743, 1146, 1150, 1142, 755, 751, 1154, 542, 538, 561, 557, 565, 547, 533, 574, 569, 579, 529, 762, 758, 1185, 1180, 1189, 1174, 1166, 1193, 1162, 1158, 454, 767, 1205, 1201, 468, 771, 1209, 489, 485, 775, 1213, 783, 779, 1217, 434, 350, 787, 1226, 1222, 340, 1234, 1230, 505, 513, 509, 501, 517, 497, 795, 791, 1250, 1246, 1242, 1238, 802, 798, 1264, 588, 805, 1272, 1268, 597, 605, 601, 593, 809, 1284, 1280, 1276, 480, 344, 1293, 1288, 0]
def gm_wi : List (Nat) := [61, 63, 62, 60, 64, 59, 66, 67, 68, 69, 65, 59, 58, 65, 65, 68, 75, 75, 77, 77, 68, 68, 68, 68, 65, 65, 59, 58, 65, 59, 58, 65, 60, 60, 62, 59, 58, 65, 65, 81, 80, 68, 68, 82, 68, 82, 65, 59, 58, 65, 59, 58, 65, 59, 59, 59, 59, 58, 65, 65, 65, 65, 59, 58, 65, 61, 59, 58, 69, 65, 62, 60, 59, 58, 69, 65, 59, 59, 58, 65, 62, 60, 60, 59, 58, 69, 69, 65, 59, 58, 65, 61, 60, 61, 60, 61, 60, 60, 60, 60, 60, 60, 59, 58, 69, 69, 69, 69, 69, 69, 69, 65, 59, 58, 65, 65, 59, 58, 65, 62, 59, 58, 65, 59, 58, 65, 60, 59, 58, 65, 65, 59, 68, 65, 61, 63, 62, 60, 60, 59, 59, 58, 69, 65, 65, 65, 59, 58, 65, 59, 58, 65, 65, 59, 59, 59, 59, 58, 65, 65, 65, 59, 59, 65, 65, 58]
def gm_hw : List (Bool) := [false, false, false, false, false, false, false, false, false, false, false, false, true, false, false, false, false, false, false, false, false, false, false, false, false, false, false, true, false, false, true, false, false, false, false, false, true, false, false, false, false, false, false, false, false, false, false, false, true, false, false, true, false, false, false, false, false, true, false, false, false, false, false, true, false, false, false, true, false, false, false, false, false, true, false, false, false, false, true, false, false, false, false, false, true, false, false, false, false, true, false, false, false, false, false, false, false, false, false, false, false, false, false, true, false, false, false, false, false, false, false, false, false, true, false, false, false, true, false, false, false, true, false, false, true, false, false, false, true, false, false, false, false, false, false, false, false, false, false, false, false, true, false, false, false, false, false, true, false, false, true, false, false, false, false, false, false, true, false, false, false, false, false, false, false, false]
def gm_K : List (Nat) := [0, 1, 2, 3, 4, 5, 6, 7, 8, 9, 10, 5, 11, 10, 10, 8, 12, 12, 13, 13, 8, 8, 8, 8, 10, 10, 5, 11, 10, 5, 11, 10, 3, 3, 2, 5, 11, 10, 10, 14, 15, 8, 8, 16, 8, 16, 10, 5, 11, 10, 5, 11, 10, 5, 5, 5, 5, 11, 10, 10, 10, 10, 5, 11, 10, 0, 5, 11, 9, 10, 2, 3, 5, 11, 9, 10, 5, 5, 11, 10, 2, 3, 3, 5, 11, 9, 9, 10, 5, 11, 10, 0, 3, 0, 3, 0, 3, 3, 3, 3, 3, 3, 5, 11, 9, 9, 9, 9, 9, 9, 9, 10, 5, 11, 10, 10, 5, 11, 10, 2, 5, 11, 10, 5, 11, 10, 3, 5, 11, 10, 10, 5, 8, 10, 0, 1, 2, 3, 3, 5, 5, 11, 9, 10, 10, 10, 5, 11, 10, 5, 11, 10, 10, 5, 5, 5, 5, 11, 10, 10, 10, 5, 5, 10, 10, 11]
def gc_N : List (String) := ["FlyTower$Bar", "FlyTower$Move", "FlyTower$Cue", "FlyTower$Rig", "FlyTower$Piece", "FlyTower", "java/util/AbstractCollection", "java/util/AbstractList", "java/util/ArrayList", "FlyTowerModel$Tower", "FlyTowerModel", "FlyTowerLaw", "jdk/internal/util/ArraysSupport", "java/util/Arrays", "jdk/internal/util/Preconditions", "java/util/Objects", "java/util/ArrayList$Itr"]
def gm_T : List (List (Nat × String × Nat × Nat × Nat × String × Bool)) := [[], [], [], [], [], [], [], [], [], [], [], [(13, "java/lang/IllegalArgumentException", 30, 32, 34, "a LIMIT is 10 to 300", false), (35, "java/lang/IllegalStateException", 41, 43, 45, "there are 8 BARS", false)], [], [], [], [], [], [], [], [], [], [], [], [], [], [], [(11, "java/lang/IllegalArgumentException", 30, 62, 34, "a WEIGHT is 1 to 90", false), (31, "java/lang/IllegalArgumentException", 30, 64, 34, "a DROP is 0 to 60", false), (50, "java/lang/IllegalArgumentException", 30, 66, 34, "a THICKNESS is 0 to 2", false), (69, "java/lang/IllegalStateException", 41, 71, 45, "there are 10 PIECES", false)], [], [], [(11, "java/lang/IllegalArgumentException", 30, 82, 34, "a CUE is 0 to 5, or NONE", false), (33, "java/lang/IllegalStateException", 41, 87, 45, "there are 6 CUES", false)], [], [], [(12, "java/lang/IndexOutOfBoundsException", 84, 91, 88, "no such CUE", false)], [(12, "java/lang/IndexOutOfBoundsException", 84, 86, 88, "no such BAR", false)], [], [(30, "java/lang/IllegalArgumentException", 30, 106, 34, "a TARGET is 0 to 120", false), (53, "java/lang/IllegalArgumentException", 30, 108, 34, "a SPEED is 1 to 6", false), (75, "java/lang/IllegalArgumentException", 30, 110, 34, "a DELAY is 0 to 20", false), (96, "java/lang/IllegalStateException", 41, 115, 45, "that CUE RUNS", false), (116, "java/lang/IllegalStateException", 41, 120, 45, "that CUE has 6 MOVES", false), (139, "java/lang/IllegalStateException", 41, 126, 45, "that CUE has a MOVE of that BAR", false)], [], [], [], [], [], [], [], [], [], [], [], [(9, "java/lang/IllegalArgumentException", 30, 146, 34, "a CREW is 0 to 5", false)], [], [], [], [], [], [(12, "java/lang/IndexOutOfBoundsException", 329, 331, 333, "no such PIECE", true)], [(11, "java/lang/IllegalStateException", 41, 189, 45, "a CUE RUNS", false), (28, "java/lang/IllegalStateException", 41, 336, 45, "HEIGHT is above 0", true)], [], [(24, "java/lang/IllegalStateException", 41, 162, 45, "that PIECE is not in the STORE", false), (58, "java/lang/IllegalStateException", 41, 171, 45, "LOAD would be above LIMIT", false)], [], [], [], [], [], [(14, "java/lang/IllegalStateException", 41, 176, 45, "that PIECE is in the STORE", false)], [], [], [], [(20, "java/lang/IllegalArgumentException", 30, 178, 34, "a COUNTER is 0 to 300", false), (37, "java/lang/IllegalStateException", 41, 180, 45, "that BAR has a MOTOR", false)], [], [], [], [], [], [(20, "java/lang/IllegalStateException", 41, 189, 45, "a CUE RUNS", false)], [], [], [], [(11, "java/lang/IllegalStateException", 41, 334, 45, "no CUE RUNS", true)], [], [], [], [], [], [], [], [], [], [], [], [], [], [], [], [], [], [], [], [], [], [], [], [], [], [(11, "java/lang/IllegalArgumentException", 30, 210, 34, "seconds are 1 to 120", false), (36, "java/lang/IllegalStateException", 41, 215, 45, "NOW would be above 3000", false)], [], [], [], [], [], [], [], [], [], [(164, "java/lang/IllegalArgumentException", 30, 235, 34, "what is 0 to 11", false)], [], [], [], [(56, "java/lang/IllegalArgumentException", 30, 237, 34, "what is 0 to 3", false)], [], [], [(12, "java/lang/IndexOutOfBoundsException", 29, 31, 33, "no such MOVE", false)], [(88, "java/lang/IllegalArgumentException", 30, 249, 34, "what is 0 to 5", false)], [], [], [], [], [], [], [(213, "java/lang/IllegalArgumentException", 30, 277, 34, "what is 0 to 15", true)], [], [], [], [], [], [], [], [], [], [], [], [], [], [], [], [], [], [], [], [], [], [(11, "java/lang/IllegalArgumentException", 30, 286, 34, "seconds are 1 to 60", true)], [], [], [], [], [], [], [(9, "java/lang/IllegalArgumentException", 30, 292, 34, "a bit is no PIECE", true)], [], [], [], [], [], [], [], [], []]
def gc_fl : List (List (Nat × Nat × Nat × Nat × Option String × String)) := [[(7, 2, 9, 126, none, "FlyTower$Bar"), (13, 2, 0, 104, none, "FlyTower$Bar"), (17, 2, 1, 107, none, "FlyTower$Bar"), (20, 2, 2, 110, none, "FlyTower$Bar"), (23, 2, 3, 112, none, "FlyTower$Bar"), (26, 2, 4, 115, none, "FlyTower$Bar"), (29, 2, 5, 117, none, "FlyTower$Bar"), (32, 2, 6, 119, none, "FlyTower$Bar"), (35, 2, 7, 121, none, "FlyTower$Bar"), (38, 2, 8, 123, none, "FlyTower$Bar"), (41, 2, 10, 129, none, "FlyTower$Bar"), (44, 2, 11, 132, none, "FlyTower$Bar"), (47, 2, 12, 134, none, "FlyTower$Bar")], [(9, 4, 4, 190, none, "FlyTower$Move"), (15, 4, 0, 177, none, "FlyTower$Move"), (18, 4, 1, 181, none, "FlyTower$Move"), (21, 4, 2, 184, none, "FlyTower$Move"), (24, 4, 3, 187, none, "FlyTower$Move"), (27, 4, 5, 194, none, "FlyTower$Move")], [(9, 3, 2, 217, none, "FlyTower$Cue"), (17, 3, 0, 211, none, "FlyTower$Cue"), (22, 3, 1, 214, none, "FlyTower$Cue"), (36, 4, 0, 178, some "FlyTower", "FlyTower$Move"), (39, 4, 4, 191, some "FlyTower", "FlyTower$Move"), (42, 4, 5, 195, some "FlyTower", "FlyTower$Move")], [(9, 6, 4, 235, none, "FlyTower$Rig"), (15, 6, 7, 240, none, "FlyTower$Rig"), (18, 6, 17, 260, none, "FlyTower$Rig"), (23, 6, 0, 227, none, "FlyTower$Rig"), (32, 6, 2, 231, none, "FlyTower$Rig"), (37, 6, 1, 229, none, "FlyTower$Rig"), (44, 6, 3, 233, none, "FlyTower$Rig"), (50, 6, 5, 237, none, "FlyTower$Rig"), (53, 6, 6, 238, none, "FlyTower$Rig"), (56, 6, 8, 242, none, "FlyTower$Rig"), (60, 6, 9, 244, none, "FlyTower$Rig"), (63, 6, 10, 246, none, "FlyTower$Rig"), (66, 6, 11, 248, none, "FlyTower$Rig"), (69, 6, 12, 250, none, "FlyTower$Rig"), (72, 6, 13, 252, none, "FlyTower$Rig"), (75, 6, 14, 254, none, "FlyTower$Rig"), (78, 6, 15, 256, none, "FlyTower$Rig"), (81, 6, 16, 258, none, "FlyTower$Rig"), (93, 2, 10, 130, some "FlyTower", "FlyTower$Bar"), (107, 2, 3, 113, some "FlyTower", "FlyTower$Bar"), (110, 2, 12, 135, some "FlyTower", "FlyTower$Bar"), (120, 3, 2, 219, some "FlyTower", "FlyTower$Cue"), (126, 3, 1, 216, some "FlyTower", "FlyTower$Cue"), (129, 3, 0, 213, some "FlyTower", "FlyTower$Cue"), (133, 4, 4, 192, some "FlyTower", "FlyTower$Move"), (138, 4, 3, 189, some "FlyTower", "FlyTower$Move"), (141, 4, 0, 180, some "FlyTower", "FlyTower$Move"), (159, 2, 1, 109, some "FlyTower", "FlyTower$Bar"), (162, 2, 8, 125, some "FlyTower", "FlyTower$Bar"), (165, 2, 9, 128, some "FlyTower", "FlyTower$Bar"), (168, 4, 5, 196, some "FlyTower", "FlyTower$Move"), (169, 4, 2, 186, some "FlyTower", "FlyTower$Move"), (172, 4, 1, 183, some "FlyTower", "FlyTower$Move"), (188, 2, 0, 106, some "FlyTower", "FlyTower$Bar")], [(9, 5, 3, 309, none, "FlyTower$Piece")], [(10, 7, 0, 320, none, "FlyTower"), (16, 7, 1, 321, none, "FlyTower"), (21, 7, 2, 322, none, "FlyTower"), (26, 7, 4, 324, none, "FlyTower"), (37, 6, 1, 230, some "FlyTower", "FlyTower$Rig"), (46, 6, 0, 228, some "FlyTower", "FlyTower$Rig"), (50, 2, 1, 108, some "FlyTower", "FlyTower$Bar"), (56, 2, 2, 111, some "FlyTower", "FlyTower$Bar"), (59, 2, 0, 105, some "FlyTower", "FlyTower$Bar"), (68, 7, 3, 323, none, "FlyTower"), (73, 5, 0, 306, some "FlyTower", "FlyTower$Piece"), (76, 5, 1, 307, some "FlyTower", "FlyTower$Piece"), (79, 5, 2, 308, some "FlyTower", "FlyTower$Piece"), (84, 6, 3, 234, some "FlyTower", "FlyTower$Rig"), (89, 6, 2, 232, some "FlyTower", "FlyTower$Rig"), (93, 3, 2, 218, some "FlyTower", "FlyTower$Cue"), (112, 6, 7, 241, some "FlyTower", "FlyTower$Rig"), (117, 3, 1, 215, some "FlyTower", "FlyTower$Cue"), (128, 3, 0, 212, some "FlyTower", "FlyTower$Cue"), (132, 4, 0, 179, some "FlyTower", "FlyTower$Move"), (137, 4, 1, 182, some "FlyTower", "FlyTower$Move"), (140, 4, 2, 185, some "FlyTower", "FlyTower$Move"), (143, 4, 3, 188, some "FlyTower", "FlyTower$Move"), (148, 6, 4, 236, some "FlyTower", "FlyTower$Rig"), (151, 2, 8, 124, some "FlyTower", "FlyTower$Bar"), (154, 2, 9, 127, some "FlyTower", "FlyTower$Bar"), (161, 5, 3, 310, some "FlyTower", "FlyTower$Piece"), (168, 2, 5, 118, some "FlyTower", "FlyTower$Bar"), (182, 2, 4, 116, some "FlyTower", "FlyTower$Bar"), (198, 6, 8, 243, some "FlyTower", "FlyTower$Rig"), (207, 2, 10, 131, some "FlyTower", "FlyTower$Bar"), (212, 6, 6, 239, some "FlyTower", "FlyTower$Rig"), (217, 6, 10, 247, some "FlyTower", "FlyTower$Rig"), (223, 2, 3, 114, some "FlyTower", "FlyTower$Bar"), (226, 2, 6, 120, some "FlyTower", "FlyTower$Bar"), (229, 2, 7, 122, some "FlyTower", "FlyTower$Bar"), (232, 2, 11, 133, some "FlyTower", "FlyTower$Bar"), (243, 4, 4, 193, some "FlyTower", "FlyTower$Move"), (246, 4, 5, 197, some "FlyTower", "FlyTower$Move"), (255, 6, 9, 245, some "FlyTower", "FlyTower$Rig"), (258, 6, 11, 249, some "FlyTower", "FlyTower$Rig"), (261, 6, 12, 251, some "FlyTower", "FlyTower$Rig"), (264, 6, 13, 253, some "FlyTower", "FlyTower$Rig"), (267, 6, 14, 255, some "FlyTower", "FlyTower$Rig"), (270, 6, 15, 257, some "FlyTower", "FlyTower$Rig"), (273, 6, 16, 259, some "FlyTower", "FlyTower$Rig"), (283, 6, 17, 261, some "FlyTower", "FlyTower$Rig")], [], [(7, 1, 0, 835, none, "java/util/AbstractList")], [(9, 1, 1, 831, none, "java/util/ArrayList"), (48, 1, 2, 834, none, "java/util/ArrayList"), (63, 1, 0, 838, none, "java/util/ArrayList")], [(12, 8, 0, 854, none, "FlyTowerModel$Tower"), (18, 8, 1, 856, none, "FlyTowerModel$Tower"), (21, 8, 2, 858, none, "FlyTowerModel$Tower"), (25, 8, 3, 860, none, "FlyTowerModel$Tower"), (29, 8, 5, 864, none, "FlyTowerModel$Tower"), (32, 8, 14, 882, none, "FlyTowerModel$Tower"), (64, 8, 6, 866, none, "FlyTowerModel$Tower"), (68, 8, 7, 868, none, "FlyTowerModel$Tower"), (89, 8, 4, 862, none, "FlyTowerModel$Tower"), (102, 8, 8, 870, none, "FlyTowerModel$Tower"), (115, 8, 9, 872, none, "FlyTowerModel$Tower"), (118, 8, 13, 880, none, "FlyTowerModel$Tower"), (135, 8, 10, 874, none, "FlyTowerModel$Tower"), (145, 8, 11, 876, none, "FlyTowerModel$Tower"), (148, 8, 12, 878, none, "FlyTowerModel$Tower")], [(10, 9, 1, 916, none, "FlyTowerModel"), (19, 9, 2, 917, none, "FlyTowerModel"), (23, 9, 0, 915, none, "FlyTowerModel"), (27, 8, 0, 855, some "FlyTowerModel", "FlyTowerModel$Tower"), (38, 8, 1, 857, some "FlyTowerModel", "FlyTowerModel$Tower"), (49, 8, 2, 859, some "FlyTowerModel", "FlyTowerModel$Tower"), (64, 8, 5, 865, some "FlyTowerModel", "FlyTowerModel$Tower"), (82, 8, 3, 861, some "FlyTowerModel", "FlyTowerModel$Tower"), (108, 8, 6, 867, some "FlyTowerModel", "FlyTowerModel$Tower"), (118, 8, 4, 863, some "FlyTowerModel", "FlyTowerModel$Tower"), (130, 8, 7, 869, some "FlyTowerModel", "FlyTowerModel$Tower"), (133, 8, 8, 871, some "FlyTowerModel", "FlyTowerModel$Tower"), (136, 8, 9, 873, some "FlyTowerModel", "FlyTowerModel$Tower"), (139, 8, 10, 875, some "FlyTowerModel", "FlyTowerModel$Tower"), (142, 8, 11, 877, some "FlyTowerModel", "FlyTowerModel$Tower"), (145, 8, 12, 879, some "FlyTowerModel", "FlyTowerModel$Tower"), (148, 8, 13, 881, some "FlyTowerModel", "FlyTowerModel$Tower"), (165, 8, 14, 883, some "FlyTowerModel", "FlyTowerModel$Tower"), (181, 9, 3, 918, none, "FlyTowerModel")], [], [], [], [], [], [(1, 0, 3, 1050, none, "java/util/ArrayList$Itr"), (13, 0, 1, 1048, none, "java/util/ArrayList$Itr"), (17, 1, 0, 836, none, "java/util/ArrayList"), (22, 0, 2, 1049, none, "java/util/ArrayList$Itr"), (25, 0, 0, 1047, none, "java/util/ArrayList$Itr"), (28, 1, 2, 833, some "java/util/ArrayList", "java/util/ArrayList")]]
def gc_nw : List (List (Nat × Nat × Nat × Nat × Nat)) := [[], [], [(15, 4, 170, 172, 63)], [(21, 2, 97, 99, 61), (30, 3, 163, 165, 62)], [], [(7, 6, 91, 92, 60), (19, 5, 299, 301, 64)], [], [], [(267, 0, 1041, 1042, 82)], [(9, 1, 852, 818, 68), (13, 8, 1251, 847, 69)], [(7, 1, 817, 818, 68), (16, 8, 846, 847, 69)], [(8, 7, 83, 84, 59), (95, 9, 811, 812, 65)], [], [], [], [], []]
def g_tys : List FieldType := [.int, .long, .object "FlyTower$Move", .object "FlyTower$Bar", .object "FlyTower$Cue", .object "FlyTower$Piece", .object "java/lang/Object"]
def gc_an : List (List (Nat × Nat × Nat × Nat)) := [[], [], [(15, 2, 170, 171)], [(21, 3, 97, 98), (30, 4, 163, 164)], [], [(19, 5, 299, 300)], [], [], [(7, 6, 1002, 995)], [], [], [], [], [(2, 6, 996, 995)], [], [], []]
def g_acI : Nat := 336
def g_acJ : Nat := 1295
def gc_iv : List (List (Nat × Nat × Nat × Nat × Nat × Nat × Nat × Nat × Nat × Option String)) := [[(1, 0, 0, 100, 0, 103, 89, 90, 0, none), (50, 65, 0, 1, 2, 543, 462, 6, 0, none)], [(3, 0, 0, 100, 0, 176, 89, 90, 0, none)], [(3, 0, 0, 100, 0, 169, 89, 90, 0, none), (21, 1, 0, 5, 4, 173, 174, 0, 0, some "FlyTower"), (25, 135, 1, 4, 4, 510, 512, 14, 0, some "FlyTower")], [(3, 0, 0, 100, 0, 96, 89, 90, 0, none), (27, 0, 1, 5, 2, 100, 101, 0, 0, some "FlyTower"), (36, 2, 0, 5, 3, 166, 167, 0, 0, some "FlyTower"), (40, 134, 1, 4, 2, 502, 504, 12, 0, some "FlyTower"), (47, 136, 1, 4, 3, 506, 508, 13, 0, some "FlyTower"), (96, 32, 1, 1, 6, 355, 357, 1, 0, none), (100, 70, 0, 4, 3, 522, 524, 17, 0, some "FlyTower"), (103, 80, 0, 4, 3, 427, 429, 3, 0, some "FlyTower"), (113, 97, 1, 1, 6, 530, 532, 19, 0, none), (116, 99, 1, 1, 6, 566, 568, 26, 0, none), (119, 81, 0, 1, 6, 575, 353, 0, 0, none), (123, 100, 1, 1, 6, 576, 578, 28, 0, none), (144, 33, 1, 1, 6, 534, 457, 5, 0, none), (148, 92, 2, 1, 6, 535, 537, 20, 0, none), (152, 96, 2, 1, 6, 544, 546, 22, 0, none), (156, 91, 0, 4, 2, 539, 541, 21, 0, some "FlyTower"), (175, 0, 2, 102, 0, 548, 549, 550, 76, none), (181, 0, 2, 101, 0, 551, 552, 553, 76, none), (184, 94, 2, 1, 6, 554, 556, 23, 0, none), (191, 95, 1, 4, 2, 562, 564, 25, 0, some "FlyTower"), (194, 93, 2, 4, 2, 558, 560, 24, 0, some "FlyTower"), (198, 65, 0, 4, 2, 570, 462, 6, 0, some "FlyTower"), (201, 98, 2, 1, 6, 571, 573, 27, 0, none), (205, 82, 0, 1, 6, 580, 582, 29, 0, none), (208, 71, 1, 1, 6, 584, 520, 16, 0, none)], [(3, 0, 0, 100, 0, 305, 89, 90, 0, none)], [(1, 0, 0, 100, 0, 88, 89, 90, 0, none), (9, 3, 0, 5, 6, 93, 94, 0, 0, some "FlyTower"), (25, 4, 0, 5, 5, 302, 303, 0, 0, some "FlyTower"), (98, 32, 1, 4, 6, 481, 357, 1, 0, some "FlyTower"), (102, 33, 1, 4, 6, 455, 457, 5, 0, some "FlyTower"), (122, 34, 1, 4, 3, 665, 667, 32, 0, some "FlyTower"), (157, 53, 1, 1, 7, 469, 471, 7, 0, none), (164, 54, 1, 1, 7, 693, 695, 33, 0, none), (173, 55, 1, 1, 7, 700, 702, 34, 0, none), (185, 65, 0, 4, 2, 460, 462, 6, 0, some "FlyTower"), (191, 71, 1, 4, 6, 518, 520, 16, 0, some "FlyTower"), (195, 76, 0, 1, 7, 736, 738, 35, 0, none), (201, 81, 0, 4, 6, 351, 353, 0, 0, some "FlyTower"), (204, 82, 0, 4, 6, 748, 582, 29, 0, some "FlyTower"), (220, 101, 0, 4, 6, 526, 528, 18, 0, some "FlyTower"), (239, 119, 1, 4, 3, 486, 488, 9, 0, some "FlyTower"), (251, 93, 2, 4, 2, 784, 560, 24, 0, some "FlyTower"), (274, 126, 0, 4, 6, 431, 433, 4, 0, some "FlyTower"), (279, 139, 1, 1, 7, 494, 496, 10, 0, none), (288, 137, 1, 4, 6, 498, 500, 11, 0, some "FlyTower"), (294, 153, 2, 0, 7, 595, 596, 0, 0, none), (298, 155, 2, 1, 7, 598, 600, 30, 0, none), (306, 127, 1, 1, 7, 347, 348, 349, 0, none), (309, 112, 2, 1, 7, 451, 452, 453, 0, none), (312, 116, 2, 1, 7, 465, 466, 467, 0, none), (315, 161, 2, 1, 7, 477, 479, 8, 0, none), (319, 149, 1, 1, 7, 585, 586, 587, 0, none), (322, 156, 1, 1, 7, 590, 591, 592, 0, none), (325, 120, 3, 1, 7, 482, 483, 484, 0, none), (338, 0, 2, 101, 0, 704, 552, 553, 76, none), (343, 138, 0, 4, 6, 514, 516, 15, 0, some "FlyTower"), (346, 154, 3, 1, 7, 602, 604, 31, 0, none)], [(1, 0, 0, 100, 0, 828, 89, 90, 0, none)], [(1, 6, 0, 2, 0, 825, 826, 0, 0, none)], [(1, 7, 0, 2, 0, 822, 823, 0, 0, none), (66, 19, 2, 0, 0, 971, 972, 0, 0, none), (69, 20, 1, 1, 1, 959, 961, 39, 0, none), (73, 17, 3, 0, 0, 963, 964, 0, 0, none), (79, 0, 2, 101, 0, 1001, 552, 553, 76, none), (118, 40, 2, 0, 0, 1027, 1028, 0, 0, none), (123, 41, 1, 1, 1, 1033, 1034, 1035, 0, none), (129, 21, 0, 1, 1, 955, 957, 38, 0, none), (131, 22, 3, 1, 1, 951, 953, 37, 0, none), (269, 43, 1, 2, 0, 1043, 1044, 0, 0, none)], [(3, 0, 0, 100, 0, 851, 89, 90, 0, none), (11, 8, 0, 2, 1, 853, 820, 0, 0, none), (35, 9, 0, 2, 8, 1252, 849, 0, 0, none), (36, 44, 0, 1, 1, 1129, 1038, 1039, 0, none), (54, 23, 1, 1, 1, 1259, 948, 949, 0, none), (58, 0, 5, 104, 0, 1260, 1000, 999, 78, none), (71, 42, 1, 1, 1, 1128, 1024, 1025, 0, none), (75, 0, 1, 103, 0, 1168, 1169, 1170, 76, none), (81, 15, 0, 1, 1, 1181, 944, 945, 0, none), (85, 104, 3, 1, 8, 1182, 1183, 1184, 0, none), (92, 108, 0, 1, 8, 1163, 1165, 45, 0, none), (95, 109, 1, 1, 8, 1190, 1192, 49, 0, none), (99, 85, 0, 1, 8, 1195, 1144, 1145, 0, none), (105, 86, 0, 1, 8, 1196, 1148, 1149, 0, none), (108, 74, 1, 1, 8, 1197, 1125, 1126, 0, none), (111, 68, 1, 0, 8, 1167, 1118, 0, 0, none), (121, 107, 1, 1, 8, 1171, 1173, 46, 0, none), (124, 0, 2, 102, 0, 1175, 549, 550, 76, none), (128, 0, 2, 101, 0, 1176, 552, 553, 76, none), (131, 105, 2, 1, 8, 1177, 1179, 47, 0, none), (138, 106, 2, 1, 8, 1186, 1188, 48, 0, none), (142, 13, 3, 3, 9, 1194, 937, 0, 0, some "FlyTowerModel")], [(1, 0, 0, 100, 0, 816, 89, 90, 0, none), (9, 8, 0, 2, 1, 819, 820, 0, 0, none), (18, 9, 0, 5, 8, 848, 849, 0, 0, some "FlyTowerModel"), (30, 15, 0, 1, 1, 943, 944, 945, 0, none), (34, 13, 3, 0, 9, 936, 937, 0, 0, none), (41, 14, 1, 1, 9, 939, 941, 36, 0, none), (45, 23, 1, 1, 1, 947, 948, 949, 0, none), (53, 37, 1, 1, 9, 1015, 1017, 40, 0, none), (57, 38, 1, 1, 9, 1019, 1021, 41, 0, none), (60, 42, 1, 1, 1, 1023, 1024, 1025, 0, none), (67, 44, 0, 1, 1, 1037, 1038, 1039, 0, none), (85, 0, 2, 101, 0, 1108, 552, 553, 76, none), (91, 58, 1, 1, 9, 1096, 1098, 42, 0, none), (94, 59, 1, 1, 9, 1100, 1102, 43, 0, none), (97, 60, 1, 1, 9, 1104, 1106, 44, 0, none), (101, 68, 1, 0, 8, 1117, 1118, 0, 0, none), (105, 74, 1, 1, 8, 1124, 1125, 1126, 0, none), (112, 85, 0, 1, 8, 1143, 1144, 1145, 0, none), (115, 86, 0, 1, 8, 1147, 1148, 1149, 0, none), (121, 110, 0, 1, 8, 1159, 1160, 1161, 0, none), (124, 114, 2, 1, 9, 1202, 1204, 50, 0, none), (127, 104, 3, 1, 8, 1218, 1183, 1184, 0, none), (151, 129, 1, 1, 9, 1223, 1225, 51, 0, none), (154, 132, 0, 1, 1, 1231, 1232, 1233, 0, none), (157, 142, 0, 1, 8, 1247, 1248, 1249, 0, none), (161, 143, 1, 1, 9, 1243, 1245, 53, 0, none), (168, 144, 1, 1, 9, 1239, 1241, 52, 0, none), (171, 151, 1, 1, 9, 1269, 1271, 54, 0, none), (174, 158, 4, 1, 9, 1281, 1283, 56, 0, none), (178, 159, 1, 1, 9, 1277, 1279, 55, 0, none), (189, 163, 1, 1, 9, 1290, 1292, 57, 0, none)], [(7, 11, 2, 1, 7, 611, 612, 613, 0, none), (17, 26, 3, 1, 7, 635, 636, 637, 0, none), (21, 29, 1, 1, 7, 646, 647, 648, 0, none), (25, 35, 5, 1, 7, 656, 657, 658, 0, none), (31, 47, 1, 1, 7, 673, 674, 675, 0, none), (34, 50, 3, 1, 7, 681, 682, 683, 0, none), (38, 56, 2, 1, 7, 688, 689, 690, 0, none), (42, 62, 1, 1, 7, 708, 709, 710, 0, none), (45, 66, 2, 1, 7, 716, 717, 718, 0, none), (48, 72, 1, 1, 7, 725, 726, 727, 0, none), (51, 77, 1, 1, 7, 732, 733, 734, 0, none), (55, 83, 0, 1, 7, 744, 745, 746, 0, none), (59, 88, 2, 1, 7, 752, 753, 754, 0, none), (63, 102, 1, 1, 7, 759, 760, 761, 0, none), (66, 112, 2, 1, 7, 768, 452, 453, 0, none), (69, 116, 2, 1, 7, 772, 466, 467, 0, none), (72, 120, 3, 1, 7, 776, 483, 484, 0, none), (75, 123, 2, 1, 7, 780, 781, 782, 0, none), (79, 127, 1, 1, 7, 788, 348, 349, 0, none), (82, 140, 1, 1, 7, 792, 793, 794, 0, none), (85, 146, 1, 1, 7, 799, 800, 801, 0, none), (88, 149, 1, 1, 7, 806, 586, 587, 0, none), (91, 156, 1, 1, 7, 810, 591, 592, 0, none), (94, 5, 0, 2, 7, 85, 86, 0, 0, none), (97, 10, 0, 2, 9, 813, 814, 0, 0, none), (98, 12, 4, 6, 0, 606, 607, 0, 0, none), (103, 24, 2, 1, 9, 932, 933, 934, 0, none), (104, 25, 0, 1, 9, 928, 929, 930, 0, none), (107, 27, 5, 6, 0, 632, 633, 0, 0, none), (110, 28, 3, 1, 9, 1003, 1004, 1005, 0, none), (111, 30, 3, 6, 0, 643, 644, 0, 0, none), (114, 31, 1, 1, 9, 1007, 1008, 1009, 0, none), (115, 36, 7, 6, 0, 652, 653, 0, 0, none), (118, 46, 5, 1, 9, 1011, 1012, 1013, 0, none), (119, 48, 3, 6, 0, 670, 671, 0, 0, none), (121, 49, 1, 1, 9, 1084, 1085, 1086, 0, none), (122, 51, 5, 6, 0, 678, 679, 0, 0, none), (125, 52, 3, 1, 9, 1088, 1089, 1090, 0, none), (126, 57, 4, 6, 0, 685, 686, 0, 0, none), (129, 61, 2, 1, 9, 1092, 1093, 1094, 0, none), (130, 63, 3, 6, 0, 705, 706, 0, 0, none), (132, 64, 1, 1, 9, 1109, 1110, 1111, 0, none), (133, 67, 4, 6, 0, 713, 714, 0, 0, none), (135, 69, 2, 1, 9, 1113, 1114, 1115, 0, none), (136, 73, 3, 6, 0, 722, 723, 0, 0, none), (138, 75, 1, 1, 9, 1120, 1121, 1122, 0, none), (139, 78, 3, 6, 0, 729, 730, 0, 0, none), (142, 79, 1, 1, 9, 1135, 1136, 1137, 0, none), (143, 84, 2, 6, 0, 741, 742, 0, 0, none), (146, 87, 0, 1, 9, 1139, 1140, 1141, 0, none), (147, 89, 4, 6, 0, 749, 750, 0, 0, none), (150, 90, 2, 1, 9, 1151, 1152, 1153, 0, none), (151, 103, 3, 6, 0, 756, 757, 0, 0, none), (153, 111, 1, 1, 9, 1155, 1156, 1157, 0, none), (154, 113, 4, 6, 0, 765, 766, 0, 0, none), (156, 115, 2, 1, 9, 1198, 1199, 1200, 0, none), (157, 117, 4, 6, 0, 769, 770, 0, 0, none), (159, 118, 2, 1, 9, 1206, 1207, 1208, 0, none), (160, 121, 5, 6, 0, 773, 774, 0, 0, none), (162, 122, 3, 1, 9, 1210, 1211, 1212, 0, none), (163, 124, 4, 6, 0, 777, 778, 0, 0, none), (165, 125, 2, 1, 9, 1214, 1215, 1216, 0, none), (166, 128, 3, 6, 0, 785, 786, 0, 0, none), (168, 130, 1, 1, 9, 1219, 1220, 1221, 0, none), (169, 131, 0, 1, 7, 337, 338, 339, 0, none), (173, 133, 0, 1, 9, 1227, 1228, 1229, 0, none), (174, 141, 3, 6, 0, 789, 790, 0, 0, none), (176, 145, 1, 1, 9, 1235, 1236, 1237, 0, none), (177, 147, 3, 6, 0, 796, 797, 0, 0, none), (179, 148, 1, 1, 9, 1261, 1262, 1263, 0, none), (180, 150, 3, 6, 0, 803, 804, 0, 0, none), (182, 152, 1, 1, 9, 1265, 1266, 1267, 0, none), (183, 157, 3, 6, 0, 807, 808, 0, 0, none), (185, 160, 1, 1, 9, 1273, 1274, 1275, 0, none), (186, 162, 0, 1, 7, 341, 342, 343, 0, none), (190, 164, 0, 1, 9, 1285, 1286, 1287, 0, none)], [(194, 0, 2, 101, 0, 966, 552, 553, 76, none), (201, 16, 2, 0, 0, 968, 969, 0, 0, none)], [(150, 0, 5, 104, 0, 998, 1000, 999, 78, none), (300, 18, 3, 0, 0, 991, 992, 0, 0, none), (304, 0, 2, 102, 0, 997, 549, 550, 76, none)], [], [(105, 39, 3, 0, 0, 1030, 1031, 0, 0, none)], [(7, 0, 0, 100, 0, 1046, 89, 90, 0, none)]]
def gc_if : List (List (Nat × Nat × Nat)) := [[], [], [], [], [], [], [], [], [], [(40, 0, 1131)], [(71, 0, 1061)], [], [], [], [], [], []]
def g_ifs : List (Nat × Nat × MethodName × Nat × Nat × Nat × Nat × Nat × Nat × Nat) := [(0, 45, ⟨"java/util/Iterator", "hasNext", "()Z"⟩, 1063, 1062, 1065, 1067, 1068, 1066, 1064)]
def gc_st : List (List (Nat × Nat)) := [[], [], [], [], [], [], [], [], [(39, 829)], [], [], [], [], [], [], [], []]
def g_stw : List (Nat) := [830, 68]
def g_ca : List (Nat × Nat × Nat) := [(6, 0, 1309), (6, 1, 1304), (6, 2, 1297), (6, 3, 1298), (6, 4, 1299), (6, 5, 1300), (6, 6, 1302), (6, 7, 1301), (6, 8, 1305), (6, 9, 1303)]
def g_caI : List (Nat × Nat) := [(6, 1319)]
def gc_cs : List (List (Nat × Value × Nat)) := [[], [], [], [], [], [(302, .long (9111), 345), (304, .long (31), 346)], [], [], [], [], [(185, .long (31), 1294), (187, .long (9111), 1289)], [], [(200, .int (2147483639), 967)], [], [], [], []]
def gc_ct : List (List (Nat × String × Nat)) := [[], [], [], [], [], [], [], [], [], [], [], [(13, "java/lang/IllegalArgumentException", 609), (15, "java/lang/IllegalStateException", 610), (29, "java/lang/IndexOutOfBoundsException", 655)], [], [], [], [], []]
def g_cast : List (String × String × Nat) := [("java/lang/IndexOutOfBoundsException", "java/lang/IndexOutOfBoundsException", 361), ("java/lang/IllegalArgumentException", "java/lang/IllegalArgumentException", 437), ("java/lang/IllegalStateException", "java/lang/IllegalStateException", 618)]
def g_ylaw : Nat := 165
end
section
/-! THE PURE MEMORY: cells by relative addresses 0, 1, 2 ..; ρ gives each its address in the machine's heap. A cell is an object (its class's place in vwCl, its fields), an array (its type's place in g_ty, length, contents), or nothing that is told (none). -/
abbrev gE : Type := (Nat × List Value) ⊕ (Nat × Nat × ((Nat → Int32) ⊕ (Nat → Int64) ⊕ (Nat → Option Nat)))
abbrev gM : Type := Nat × (Nat → Option gE)
def g_tr (ρ : Nat → Nat) : Value → Value := fun v => match v with
  | .ref k => .ref (ρ k)
  | w => w
def g_trA (cA : ClassId) (ρ : Nat → Nat) (x : Nat × ((Nat → Int32) ⊕ (Nat → Int64) ⊕ (Nat → Option Nat))) : ClassId × vp_A := match x.2 with
  | .inl f => (cA, x.1, .inl f)
  | .inr (.inl f) => (cA, x.1, .inr (.inl f))
  | .inr (.inr f) => (cA, x.1, .inr (.inr (.inr (.inr (fun i => (f i).map ρ)))))
def g_trE (cA : Nat → ClassId) (ρ : Nat → Nat) (e : gE) : va_E := match e with
  | .inl o => .inr (o.1, o.2.map (g_tr ρ))
  | .inr a => .inl (g_trA (cA a.1) ρ a.2)
def g_wd (cA : Nat → ClassId) (ρ : Nat → Nat) (M : gM) : va_W := (List.range M.1).filterMap (fun k => (M.2 k).map (fun e => (ρ k, g_trE cA ρ e)))
theorem g_wd_succ (cA : Nat → ClassId) (ρ : Nat → Nat) (n : Nat) (f : Nat → Option gE) : g_wd cA ρ (n + 1, f) = g_wd cA ρ (n, f) ++ ((f n).map (fun e => (ρ n, g_trE cA ρ e))).toList := by
  simp only [g_wd, List.range_succ, List.filterMap_append]
  cases h : f n <;> simp [h]
theorem g_wd_congr {cA : Nat → ClassId} {ρ ρ' : Nat → Nat} {f f' : Nat → Option gE} : ∀ {n : Nat}, (∀ k, k < n → f k = f' k) → (∀ k, k < n → ∀ e, f k = some e → ρ k = ρ' k ∧ g_trE cA ρ e = g_trE cA ρ' e) → g_wd cA ρ (n, f) = g_wd cA ρ' (n, f')
  | 0, _, _ => rfl
  | n + 1, h1, h2 => by
    rw [g_wd_succ, g_wd_succ, g_wd_congr (fun k hk => h1 k (Nat.lt_succ_of_lt hk)) (fun k hk => h2 k (Nat.lt_succ_of_lt hk)), ← h1 n (Nat.lt_succ_self n)]
    cases he : f n with
    | none => rfl
    | some e =>
      obtain ⟨a, b⟩ := h2 n (Nat.lt_succ_self n) e he
      simp only [Option.map_some, a, b]
/-- a cell's place in the world, and what writing there gives -/
theorem g_at {cA : Nat → ClassId} {ρ : Nat → Nat} {f : Nat → Option gE} {k : Nat} {e : gE} : ∀ {n : Nat}, k < n → f k = some e → ∃ q0, (g_wd cA ρ (n, f))[q0]? = some (ρ k, g_trE cA ρ e) ∧ ∀ e', (g_wd cA ρ (n, f)).set q0 (ρ k, g_trE cA ρ e') = g_wd cA ρ (n, va_up f k (some e'))
  | 0, h, _ => absurd h (Nat.not_lt_zero k)
  | n + 1, h, he => by
    rcases Nat.lt_or_ge k n with hk | hk
    · obtain ⟨q0, h1, h2⟩ := g_at (cA := cA) (ρ := ρ) hk he
      have hlt : q0 < (g_wd cA ρ (n, f)).length := (List.getElem?_eq_some_iff.mp h1).1
      refine ⟨q0, by rw [g_wd_succ, List.getElem?_append_left hlt]; exact h1, fun e' => ?_⟩
      rw [g_wd_succ, g_wd_succ, List.set_append_left q0 _ hlt, h2 e']
      have hn : va_up f k (some e') n = f n := by unfold va_up; rw [if_neg (Nat.ne_of_gt hk)]
      rw [hn]
    · have hkn : k = n := Nat.le_antisymm (Nat.lt_succ_iff.mp h) hk
      subst hkn
      refine ⟨(g_wd cA ρ (k, f)).length, ?_, fun e' => ?_⟩
      · rw [g_wd_succ, he, List.getElem?_append_right (Nat.le_refl _)]
        simp
      · rw [g_wd_succ, g_wd_succ, he]
        have hs : va_up f k (some e') k = some e' := by unfold va_up; rw [if_pos rfl]
        have hc : g_wd cA ρ (k, va_up f k (some e')) = g_wd cA ρ (k, f) := g_wd_congr (fun j hj => by unfold va_up; rw [if_neg (Nat.ne_of_lt hj)]) (fun _ _ _ _ => ⟨rfl, rfl⟩)
        rw [hs, hc, List.set_append_right _ _ (Nat.le_refl _)]
        simp
/-- a value's own reference lies below n -/
def g_ok (n : Nat) : Value → Bool := fun v => match v with
  | .ref k => decide (k < n)
  | _ => true
def g_okE (n : Nat) (e : gE) : Prop := match e with
  | .inl o => ∀ v ∈ o.2, g_ok n v = true
  | .inr a => match a.2.2 with
    | .inl _ => True
    | .inr (.inl _) => True
    | .inr (.inr f) => ∀ i k, f i = some k → k < n
def g_WF (M : gM) : Prop := ∀ k, k < M.1 → ∀ e, M.2 k = some e → g_okE M.1 e
theorem g_ok_mono {n n' : Nat} (h : n ≤ n') {v : Value} (hv : g_ok n v = true) : g_ok n' v = true := by
  cases v <;> first | rfl | (simp only [g_ok, decide_eq_true_eq] at hv ⊢; exact Nat.lt_of_lt_of_le hv h)
theorem g_okE_mono {n n' : Nat} (h : n ≤ n') {e : gE} (he : g_okE n e) : g_okE n' e := by
  rcases e with o | ⟨t, len, f | f | f⟩
  · exact fun v hv => g_ok_mono h (he v hv)
  · trivial
  · trivial
  · exact fun i k hk => Nat.lt_of_lt_of_le (he i k hk) h
/-- ρ' agrees with ρ below n -/
def g_ag (n : Nat) (ρ ρ' : Nat → Nat) : Prop := ∀ k, k < n → ρ' k = ρ k
theorem g_ag.rf {n : Nat} {ρ : Nat → Nat} : g_ag n ρ ρ := fun _ _ => rfl
theorem g_ag.trans {n n' : Nat} {ρ ρ1 ρ2 : Nat → Nat} (h1 : g_ag n ρ ρ1) (hn : n ≤ n') (h2 : g_ag n' ρ1 ρ2) : g_ag n ρ ρ2 := fun k hk => (h2 k (Nat.lt_of_lt_of_le hk hn)).trans (h1 k hk)
theorem g_ag.up {n : Nat} {ρ : Nat → Nat} {q : Nat} : g_ag n ρ (va_up ρ n q) := fun k hk => by unfold va_up; rw [if_neg (Nat.ne_of_lt hk)]
theorem g_tr_ag {n : Nat} {ρ ρ' : Nat → Nat} (h : g_ag n ρ ρ') {v : Value} (hv : g_ok n v = true) : g_tr ρ' v = g_tr ρ v := by
  cases v <;> first | rfl | (simp only [g_ok, decide_eq_true_eq] at hv; simp only [g_tr, h _ hv])
theorem g_trs_ag {n : Nat} {ρ ρ' : Nat → Nat} (h : g_ag n ρ ρ') {l : List Value} (hl : l.all (g_ok n) = true) : l.map (g_tr ρ') = l.map (g_tr ρ) :=
  List.map_congr_left fun v hv => g_tr_ag h (List.all_eq_true.mp hl v hv)
abbrev gL : Type := List (Nat × Value)
def g_trL (ρ : Nat → Nat) (lv : gL) : gL := lv.map (fun q => (q.1, g_tr ρ q.2))
theorem g_trL_ag {n : Nat} {ρ ρ' : Nat → Nat} (h : g_ag n ρ ρ') {lv : gL} (hl : lv.all (fun q => g_ok n q.2) = true) : g_trL ρ' lv = g_trL ρ lv :=
  List.map_congr_left fun q hq => by rw [g_tr_ag h (List.all_eq_true.mp hl q hq)]
theorem g_trE_ag {cA : Nat → ClassId} {n : Nat} {ρ ρ' : Nat → Nat} (h : g_ag n ρ ρ') {e : gE} (he : g_okE n e) : g_trE cA ρ' e = g_trE cA ρ e := by
  rcases e with o | ⟨t, len, f | f | f⟩
  · show Sum.inr (o.1, o.2.map (g_tr ρ')) = Sum.inr (o.1, o.2.map (g_tr ρ))
    rw [List.map_congr_left fun v hv => g_tr_ag h (he v hv)]
  · rfl
  · rfl
  · have e : (fun i => (f i).map ρ') = fun i => (f i).map ρ := funext fun i => by
      cases hi : f i with
      | none => rfl
      | some k => simp only [Option.map_some, h k (he i k hi)]
    show Sum.inl (cA t, len, Sum.inr (Sum.inr (Sum.inr (Sum.inr (fun i => (f i).map ρ'))))) = Sum.inl (cA t, len, Sum.inr (Sum.inr (Sum.inr (Sum.inr (fun i => (f i).map ρ)))))
    rw [e]
theorem g_wd_ag {cA : Nat → ClassId} {ρ ρ' : Nat → Nat} {M : gM} (hw : g_WF M) (h : g_ag M.1 ρ ρ') : g_wd cA ρ' M = g_wd cA ρ M :=
  (g_wd_congr (n := M.1) (f := M.2) (f' := M.2) (fun _ _ => rfl) (fun k hk e he => ⟨h k hk, g_trE_ag h (hw k hk e he)⟩))
/-- a new cell -/
theorem g_push {cA : Nat → ClassId} {ρ : Nat → Nat} {M : gM} (hw : g_WF M) (q : Nat) (e : gE) (he : g_okE M.1 e) : g_wd cA (va_up ρ M.1 q) (M.1 + 1, va_up M.2 M.1 (some e)) = g_wd cA ρ M ++ [(q, g_trE cA ρ e)] := by
  have h0 : va_up M.2 M.1 (some e) M.1 = some e := by unfold va_up; rw [if_pos rfl]
  have hq : va_up ρ M.1 q M.1 = q := by unfold va_up; rw [if_pos rfl]
  have hc : g_wd cA (va_up ρ M.1 q) (M.1, va_up M.2 M.1 (some e)) = g_wd cA ρ M := by
    rw [← g_wd_ag hw (g_ag.up (q := q))]
    exact g_wd_congr (fun j hj => by unfold va_up; rw [if_neg (Nat.ne_of_lt hj)]) (fun _ _ _ _ => ⟨rfl, rfl⟩)
  rw [g_wd_succ, h0, hc, Option.map_some, hq, g_trE_ag g_ag.up he]
  rfl
/-- a cell of which nothing is told -/
theorem g_dark {cA : Nat → ClassId} {ρ : Nat → Nat} {M : gM} (hw : g_WF M) (q : Nat) : g_wd cA (va_up ρ M.1 q) (M.1 + 1, va_up M.2 M.1 none) = g_wd cA ρ M := by
  have h0 : va_up M.2 M.1 (none : Option gE) M.1 = none := by unfold va_up; rw [if_pos rfl]
  have hc : g_wd cA (va_up ρ M.1 q) (M.1, va_up M.2 M.1 none) = g_wd cA ρ M := by
    rw [← g_wd_ag hw (g_ag.up (q := q))]
    exact g_wd_congr (fun j hj => by unfold va_up; rw [if_neg (Nat.ne_of_lt hj)]) (fun _ _ _ _ => ⟨rfl, rfl⟩)
  rw [g_wd_succ, h0, hc]
  simp
theorem g_WF_up {M : gM} (hw : g_WF M) {k : Nat} {e : gE} (he : g_okE M.1 e) : g_WF (M.1, va_up M.2 k (some e)) := fun j hj e' h => by
  by_cases hk : j = k
  · subst hk
    have h1 : va_up M.2 j (some e) j = some e := by unfold va_up; rw [if_pos rfl]
    cases h1.symm.trans h
    exact he
  · have h1 : va_up M.2 k (some e) j = M.2 j := by unfold va_up; rw [if_neg hk]
    exact hw j hj e' (h1.symm.trans h)
theorem g_WF_new {M : gM} (hw : g_WF M) {e : Option gE} (he : ∀ e', e = some e' → g_okE (M.1 + 1) e') : g_WF (M.1 + 1, va_up M.2 M.1 e) := fun j hj e' h => by
  by_cases hk : j = M.1
  · subst hk
    have h1 : va_up M.2 M.1 e M.1 = e := by unfold va_up; rw [if_pos rfl]
    exact he e' (h1.symm.trans h)
  · have h1 : va_up M.2 M.1 e j = M.2 j := by unfold va_up; rw [if_neg hk]
    have hj' : j < M.1 := Nat.lt_of_le_of_ne (Nat.lt_succ_iff.mp hj) hk
    exact g_okE_mono (Nat.le_succ _) (hw j hj' e' (h1.symm.trans h))
/-- the words that are carried from frame to frame -/
def g_gw (w : Cond) : Bool := (w.onTables && w.keepsH) || (match w with
  | .arrayClass _ => true
  | .declares _ => true
  | .castable _ _ => true
  | _ => false)
theorem g_gw_moved {args args' : Array Value} {s U : State} (hW : s.WarmedH U.vm) {w : Cond} (hg : g_gw w = true) (h : w.before args s = true) : w.before args' U = true := by
  simp only [g_gw, Bool.or_eq_true, Bool.and_eq_true] at hg
  rcases hg with ⟨h1, h2⟩ | hg
  · have := Cond.onTables_warmH (args' := args') (T := U) hW h1 h2 h
    exact this
  · have : (∃ ty, w = .arrayClass ty) ∨ (∃ x, w = .declares x) ∨ ∃ a b, w = .castable a b := by
      cases w <;> first | exact Or.inl ⟨_, rfl⟩ | exact Or.inr (Or.inl ⟨_, rfl⟩) | exact Or.inr (Or.inr ⟨_, _, rfl⟩) | exact absurd hg (by simp)
    rcases this with this | ⟨x, rfl⟩ | ⟨a, b, rfl⟩
    · exact word_at hW (Or.inr this) h
    · exact va_Nw.use rfl (va_Nw.warmD hW (va_Nw.of rfl h))
    · exact va_Nw.use rfl (va_Nw.warmC hW (va_Nw.of rfl h))
theorem g_gw_ot {w : Cond} (hg : g_gw w = true) : vx_ot w = true := by
  simp only [g_gw, Bool.or_eq_true, Bool.and_eq_true] at hg
  rcases hg with ⟨h1, h2⟩ | hg
  · simp only [vx_ot, h1, Bool.true_or]
  · have : (∃ ty, w = .arrayClass ty) ∨ (∃ x, w = .declares x) ∨ ∃ a b, w = .castable a b := by
      cases w <;> first | exact Or.inl ⟨_, rfl⟩ | exact Or.inr (Or.inl ⟨_, rfl⟩) | exact Or.inr (Or.inr ⟨_, _, rfl⟩) | exact absurd hg (by simp)
    rcases this with ⟨ty, rfl⟩ | ⟨x, rfl⟩ | ⟨a, b, rfl⟩
    · simp [vx_ot, goodWord]
    · rfl
    · rfl
end
section
def gN (y : Nat) : MethodName := gm_N.getD y ⟨"", "", ""⟩
def gLo (y : Nat) : Nat := gm_L.getD y 0
def gR (y : Nat) : Option FieldType := gm_R.getD y none
def gH (y : Nat) : List (Nat × Nat × Nat × Nat) := gm_H.getD y []
def gF (y : Nat) : Nat := gm_F.getD y 0
def gW (y : Nat) : Nat := gm_W.getD y 0
def gK (y : Nat) : Nat := gm_K.getD y 0
def gOwn (y : Nat) : String := gc_N.getD (gK y) ""
def gCq (y : Nat) : ByteArray × List (List (Nat × Instr × Nat)) := gm_CI.getD y (⟨#[]⟩, [])
def gC (y : Nat) : ByteArray := (gCq y).1
def gI (y pc : Nat) : Option (Instr × Nat) := ((gCq y).2.getD (pc / 32) []).lookup pc
theorem gI_ok {y pc : Nat} {i : Instr} {n : Nat} (h : gI y pc = some (i, n)) : decode (gC y) pc = .ok (i, n) ∧ (glen i ≠ 0 → decode (gC y) pc = .ok (i, glen i)) := by
  have h1 : (pc, i, n) ∈ (gCq y).2.getD (pc / 32) [] := g_lookup_mem h
  rcases Nat.lt_or_ge (pc / 32) (gCq y).2.length with hc | hc
  · have h2 : (gCq y).2.getD (pc / 32) [] ∈ (gCq y).2 := g_getD_mem hc
    rcases Nat.lt_or_ge y gm_CI.length with hy | hy
    · have h3 : gCq y ∈ gm_CI := g_getD_mem hy
      have h4 := List.all_eq_true.mp (gv_all _ h3 _ h2) _ h1
      simp only [Bool.and_eq_true, Bool.or_eq_true, decide_eq_true_eq, beq_iff_eq] at h4
      obtain ⟨h5, h6⟩ := h4
      refine ⟨h5, fun h0 => ?_⟩
      rcases h6 with h6 | h6
      · rw [h6]; exact h5
      · exact absurd h6 h0
    · have : gCq y = (⟨#[]⟩, []) := g_getD_ge hy
      rw [this] at hc
      exact absurd hc (Nat.not_lt_zero _)
  · rw [g_getD_ge hc] at h1
    cases h1
end
section
def g_nc : List (String × String) := [("java/lang/IllegalStateException", "java/lang/IllegalArgumentException"), ("java/lang/IllegalStateException", "java/lang/IndexOutOfBoundsException"), ("java/lang/IllegalArgumentException", "java/lang/IndexOutOfBoundsException")]
end
section
def g_pI {α : Type} (st : List Value) (F : Int32 → List Value → Option α) : Option α := match st with
  | .int x :: t => F x t
  | _ => none
theorem g_pI_i {α : Type} {st : List Value} {F : Int32 → List Value → Option α} {r : α} (h : g_pI st F = some r) : ∃ (x : Int32) (t : List Value), st = .int x :: t ∧ F x t = some r := by
  unfold g_pI at h
  split at h
  · exact ⟨_, _, rfl, h⟩
  · cases h
def g_pII {α : Type} (st : List Value) (F : Int32 → Int32 → List Value → Option α) : Option α := match st with
  | .int x2 :: .int x1 :: t => F x2 x1 t
  | _ => none
theorem g_pII_i {α : Type} {st : List Value} {F : Int32 → Int32 → List Value → Option α} {r : α} (h : g_pII st F = some r) : ∃ (x2 : Int32) (x1 : Int32) (t : List Value), st = .int x2 :: .int x1 :: t ∧ F x2 x1 t = some r := by
  unfold g_pII at h
  split at h
  · exact ⟨_, _, _, rfl, h⟩
  · cases h
def g_pL {α : Type} (st : List Value) (F : Int64 → List Value → Option α) : Option α := match st with
  | .long x :: t => F x t
  | _ => none
theorem g_pL_i {α : Type} {st : List Value} {F : Int64 → List Value → Option α} {r : α} (h : g_pL st F = some r) : ∃ (x : Int64) (t : List Value), st = .long x :: t ∧ F x t = some r := by
  unfold g_pL at h
  split at h
  · exact ⟨_, _, rfl, h⟩
  · cases h
def g_pLL {α : Type} (st : List Value) (F : Int64 → Int64 → List Value → Option α) : Option α := match st with
  | .long x2 :: .long x1 :: t => F x2 x1 t
  | _ => none
theorem g_pLL_i {α : Type} {st : List Value} {F : Int64 → Int64 → List Value → Option α} {r : α} (h : g_pLL st F = some r) : ∃ (x2 : Int64) (x1 : Int64) (t : List Value), st = .long x2 :: .long x1 :: t ∧ F x2 x1 t = some r := by
  unfold g_pLL at h
  split at h
  · exact ⟨_, _, _, rfl, h⟩
  · cases h
def g_pD {α : Type} (st : List Value) (F : UInt64 → List Value → Option α) : Option α := match st with
  | .double x :: t => F x t
  | _ => none
theorem g_pD_i {α : Type} {st : List Value} {F : UInt64 → List Value → Option α} {r : α} (h : g_pD st F = some r) : ∃ (x : UInt64) (t : List Value), st = .double x :: t ∧ F x t = some r := by
  unfold g_pD at h
  split at h
  · exact ⟨_, _, rfl, h⟩
  · cases h
def g_pDD {α : Type} (st : List Value) (F : UInt64 → UInt64 → List Value → Option α) : Option α := match st with
  | .double x2 :: .double x1 :: t => F x2 x1 t
  | _ => none
theorem g_pDD_i {α : Type} {st : List Value} {F : UInt64 → UInt64 → List Value → Option α} {r : α} (h : g_pDD st F = some r) : ∃ (x2 : UInt64) (x1 : UInt64) (t : List Value), st = .double x2 :: .double x1 :: t ∧ F x2 x1 t = some r := by
  unfold g_pDD at h
  split at h
  · exact ⟨_, _, _, rfl, h⟩
  · cases h
def g_pV {α : Type} (st : List Value) (F : Value → List Value → Option α) : Option α := match st with
  | v :: t => F v t
  | _ => none
theorem g_pV_i {α : Type} {st : List Value} {F : Value → List Value → Option α} {r : α} (h : g_pV st F = some r) : ∃ (v : Value) (t : List Value), st = v :: t ∧ F v t = some r := by
  unfold g_pV at h
  split at h
  · exact ⟨_, _, rfl, h⟩
  · cases h
def g_pVV {α : Type} (st : List Value) (F : Value → Value → List Value → Option α) : Option α := match st with
  | v2 :: v1 :: t => F v2 v1 t
  | _ => none
theorem g_pVV_i {α : Type} {st : List Value} {F : Value → Value → List Value → Option α} {r : α} (h : g_pVV st F = some r) : ∃ (v2 : Value) (v1 : Value) (t : List Value), st = v2 :: v1 :: t ∧ F v2 v1 t = some r := by
  unfold g_pVV at h
  split at h
  · exact ⟨_, _, _, rfl, h⟩
  · cases h
def g_pR {α : Type} (st : List Value) (F : Nat → List Value → Option α) : Option α := match st with
  | .ref a :: t => F a t
  | _ => none
theorem g_pR_i {α : Type} {st : List Value} {F : Nat → List Value → Option α} {r : α} (h : g_pR st F = some r) : ∃ (a : Nat) (t : List Value), st = .ref a :: t ∧ F a t = some r := by
  unfold g_pR at h
  split at h
  · exact ⟨_, _, rfl, h⟩
  · cases h
def g_pRI {α : Type} (st : List Value) (F : Int32 → Nat → List Value → Option α) : Option α := match st with
  | .int i :: .ref a :: t => F i a t
  | _ => none
theorem g_pRI_i {α : Type} {st : List Value} {F : Int32 → Nat → List Value → Option α} {r : α} (h : g_pRI st F = some r) : ∃ (i : Int32) (a : Nat) (t : List Value), st = .int i :: .ref a :: t ∧ F i a t = some r := by
  unfold g_pRI at h
  split at h
  · exact ⟨_, _, _, rfl, h⟩
  · cases h
def g_pRII {α : Type} (st : List Value) (F : Int32 → Int32 → Nat → List Value → Option α) : Option α := match st with
  | .int x :: .int i :: .ref a :: t => F x i a t
  | _ => none
theorem g_pRII_i {α : Type} {st : List Value} {F : Int32 → Int32 → Nat → List Value → Option α} {r : α} (h : g_pRII st F = some r) : ∃ (x : Int32) (i : Int32) (a : Nat) (t : List Value), st = .int x :: .int i :: .ref a :: t ∧ F x i a t = some r := by
  unfold g_pRII at h
  split at h
  · exact ⟨_, _, _, _, rfl, h⟩
  · cases h
def g_pRIL {α : Type} (st : List Value) (F : Int64 → Int32 → Nat → List Value → Option α) : Option α := match st with
  | .long x :: .int i :: .ref a :: t => F x i a t
  | _ => none
theorem g_pRIL_i {α : Type} {st : List Value} {F : Int64 → Int32 → Nat → List Value → Option α} {r : α} (h : g_pRIL st F = some r) : ∃ (x : Int64) (i : Int32) (a : Nat) (t : List Value), st = .long x :: .int i :: .ref a :: t ∧ F x i a t = some r := by
  unfold g_pRIL at h
  split at h
  · exact ⟨_, _, _, _, rfl, h⟩
  · cases h
def g_pRIR {α : Type} (st : List Value) (F : Nat → Int32 → Nat → List Value → Option α) : Option α := match st with
  | .ref v :: .int i :: .ref a :: t => F v i a t
  | _ => none
theorem g_pRIR_i {α : Type} {st : List Value} {F : Nat → Int32 → Nat → List Value → Option α} {r : α} (h : g_pRIR st F = some r) : ∃ (v : Nat) (i : Int32) (a : Nat) (t : List Value), st = .ref v :: .int i :: .ref a :: t ∧ F v i a t = some r := by
  unfold g_pRIR at h
  split at h
  · exact ⟨_, _, _, _, rfl, h⟩
  · cases h
def g_pRV {α : Type} (st : List Value) (F : Value → Nat → List Value → Option α) : Option α := match st with
  | v :: .ref a :: t => F v a t
  | _ => none
theorem g_pRV_i {α : Type} {st : List Value} {F : Value → Nat → List Value → Option α} {r : α} (h : g_pRV st F = some r) : ∃ (v : Value) (a : Nat) (t : List Value), st = v :: .ref a :: t ∧ F v a t = some r := by
  unfold g_pRV at h
  split at h
  · exact ⟨_, _, _, rfl, h⟩
  · cases h
abbrev gCf : Type := Nat × gL × List Value × gM × Nat × Nat
def g_tg (pc : Nat) (off : Int) : Option Nat := if (((((pc : Int) + off).toNat : Nat) : Int) = (pc : Int) + off) then some ((pc : Int) + off).toNat else none
theorem g_tg_i {pc : Nat} {off : Int} {t : Nat} (h : g_tg pc off = some t) : (pc : Int) + off = (t : Int) := by
  unfold g_tg at h
  split at h
  · next q => cases h; exact q.symm
  · cases h
def g_st1 (lv : gL) (i : Nat) (v : Value) : gL := (i, v) :: lv.filter (fun q => !(q.1 == i) && !(q.1 + 1 == i && q.2.category == 2))
def g_st2 (lv : gL) (i : Nat) (v : Value) : gL := (i, v) :: lv.filter (fun q => !(q.1 == i) && (!(q.1 == i + 1) && !(q.1 + 1 == i && q.2.category == 2)))
theorem g_tr_cat (ρ : Nat → Nat) (v : Value) : (g_tr ρ v).category = v.category := by cases v <;> rfl
theorem g_st1_tr (ρ : Nat → Nat) (lv : gL) (i : Nat) (v : Value) : (i, g_tr ρ v) :: (g_trL ρ lv).filter (fun q => !(q.1 == i) && !(q.1 + 1 == i && q.2.category == 2)) = g_trL ρ (g_st1 lv i v) := by
  simp only [g_trL, g_st1, List.map_cons, List.filter_map]
  congr 2
  exact List.filter_congr (fun q _ => by simp only [Function.comp, g_tr_cat])
theorem g_st2_tr (ρ : Nat → Nat) (lv : gL) (i : Nat) (v : Value) : (i, g_tr ρ v) :: (g_trL ρ lv).filter (fun q => !(q.1 == i) && (!(q.1 == i + 1) && !(q.1 + 1 == i && q.2.category == 2))) = g_trL ρ (g_st2 lv i v) := by
  simp only [g_trL, g_st2, List.map_cons, List.filter_map]
  congr 2
  exact List.filter_congr (fun q _ => by simp only [Function.comp, g_tr_cat])
theorem g_ld {ρ : Nat → Nat} {lv : gL} {ls : Array Slot} {n i : Nat} {v : Value} (hl : lv_has ls n (g_trL ρ lv)) (h : lv.lookup i = some v) : ls[i]? = some (.val (g_tr ρ v)) :=
  hl.2.2 (i, g_tr ρ v) (List.mem_map.mpr ⟨(i, v), g_lookup_mem h, rfl⟩)
def g_isRef : FieldType → Bool
  | .object _ => true
  | .array _ => true
  | _ => false
def g_put (ty : FieldType) (v : Value) : Bool := match v with
  | .ref _ => g_isRef ty
  | v => decide (narrow ty v = v) && fits ty v
theorem g_put_tr {ty : FieldType} {v : Value} (h : g_put ty v = true) (ρ : Nat → Nat) : narrow ty (g_tr ρ v) = g_tr ρ v ∧ fits ty (g_tr ρ v) = true := by
  cases v with
  | ref k =>
    cases ty <;> first | exact ⟨rfl, rfl⟩ | (cases h)
  | _ =>
    simp only [g_put, Bool.and_eq_true, decide_eq_true_eq] at h
    exact h
def gFld (y ix : Nat) : Option (Nat × Nat × Nat × Option String × String) := (gc_fl.getD (gK y) []).lookup ix
def gNw (y ix : Nat) : Option (Nat × Nat × Nat × Nat) := (gc_nw.getD (gK y) []).lookup ix
def gAn (y ix : Nat) : Option (Nat × Nat × Nat) := (gc_an.getD (gK y) []).lookup ix
def gIv (y ix : Nat) : Option (Nat × Nat × Nat × Nat × Nat × Nat × Nat × Nat × Option String) := (gc_iv.getD (gK y) []).lookup ix
def gCs (y ix : Nat) : Option (Value × Nat) := (gc_cs.getD (gK y) []).lookup ix
def g_cl (ci : Nat) : vw_C := vwCl.getD ci ("", fun _ => ("", "", "", false), 0)
def g_ft (ci k : Nat) : FieldType := (parseFieldDescriptor ((g_cl ci).2.1 k).2.2.1).getD .int
def g_df (ci : Nat) : List Value := (List.range (g_cl ci).2.2).map (fun k => defaultValue (g_ft ci k))
def g_rd (M : gM) (a : Nat) : Option gE := if a < M.1 then M.2 a else none
def g_ix (i : Int32) (n : Nat) : Bool := !(decide (i < 0) || decide (n ≤ i.toNatClampNeg))
def g_c1 (cd : Jvm.ClassFile.Cond) (x : Int32) : Bool := match cd with
  | .eq => decide (x = 0)
  | .ne => decide (¬ x = 0)
  | .lt => decide (x < 0)
  | .ge => decide (0 ≤ x)
  | .gt => decide (0 < x)
  | .le => decide (x ≤ 0)
def g_c2 (cd : Jvm.ClassFile.Cond) (x1 x2 : Int32) : Bool := match cd with
  | .eq => decide (x1 = x2)
  | .ne => decide (¬ x1 = x2)
  | .lt => decide (x1 < x2)
  | .ge => decide (x2 ≤ x1)
  | .gt => decide (x2 < x1)
  | .le => decide (x1 ≤ x2)
def g_obj (tg : Nat) : Bool := match g_tys[tg]? with
  | some (.object _) => true
  | _ => false
/-- a final field may be put by its own class's constructor alone -/
def g_pf (y ci k : Nat) (host : Option String) : Bool := !((g_cl ci).2.1 k).2.2.2 || (((gN y).name == "<init>") && ((((g_cl ci).2.1 k).1 == gOwn y) && host.isNone))
def gSt (y ix : Nat) : Option Nat := (gc_st.getD (gK y) []).lookup ix
def g_casO (tg ci : Nat) : Bool := g_ca.any (fun u => u.1 == tg && u.2.1 == ci)
def g_casI (tg : Nat) : Bool := g_caI.any (fun u => u.1 == tg)
/-- one step within a frame; none: not told here -/
def g_stp (xs : Nat → Int32) (L y : Nat) (i : Instr) (pc : Nat) (lv : gL) (st : List Value) (M : gM) (c d : Nat) : Option gCf := match i with
  | .iconst v => some (pc + 1, lv, .int (Int32.ofInt v) :: st, M, c, d)
  | .lconst v => some (pc + 1, lv, .long (Int64.ofNat (v : Nat)) :: st, M, c, d)
  | .bipush v => some (pc + 2, lv, .int (Int8.ofInt v).toInt32 :: st, M, c, d)
  | .sipush v => some (pc + 3, lv, .int (Int16.ofInt v).toInt32 :: st, M, c, d)
  | .aconst_null => some (pc + 1, lv, .null :: st, M, c, d)
  | .iadd => g_pII st fun x2 x1 t => some (pc + 1, lv, .int (x1 + x2) :: t, M, c, d)
  | .isub => g_pII st fun x2 x1 t => some (pc + 1, lv, .int (x1 - x2) :: t, M, c, d)
  | .imul => g_pII st fun x2 x1 t => some (pc + 1, lv, .int (x1 * x2) :: t, M, c, d)
  | .iand => g_pII st fun x2 x1 t => some (pc + 1, lv, .int (x1 &&& x2) :: t, M, c, d)
  | .ior => g_pII st fun x2 x1 t => some (pc + 1, lv, .int (x1 ||| x2) :: t, M, c, d)
  | .ishl => g_pII st fun x2 x1 t => some (pc + 1, lv, .int (x1 <<< (x2 &&& 31)) :: t, M, c, d)
  | .ishr => g_pII st fun x2 x1 t => some (pc + 1, lv, .int (x1 >>> (x2 &&& 31)) :: t, M, c, d)
  | .iushr => g_pII st fun x2 x1 t => some (pc + 1, lv, .int (x1.toUInt32 >>> (x2.toUInt32 &&& Int32.toUInt32 31)).toInt32 :: t, M, c, d)
  | .idiv => g_pII st fun x2 x1 t => if ¬ x2 = 0 then some (pc + 1, lv, .int (x1 / x2) :: t, M, c, d) else none
  | .irem => g_pII st fun x2 x1 t => if ¬ x2 = 0 then some (pc + 1, lv, .int (x1 - x1 / x2 * x2) :: t, M, c, d) else none
  | .ineg => g_pI st fun x t => some (pc + 1, lv, .int (-x) :: t, M, c, d)
  | .ladd => g_pLL st fun x2 x1 t => some (pc + 1, lv, .long (x1 + x2) :: t, M, c, d)
  | .lmul => g_pLL st fun x2 x1 t => some (pc + 1, lv, .long (x1 * x2) :: t, M, c, d)
  | .i2l => g_pI st fun x t => some (pc + 1, lv, .long x.toInt64 :: t, M, c, d)
  | .i2d => g_pI st fun x t => some (pc + 1, lv, .double (FP.i2d x) :: t, M, c, d)
  | .lcmp => g_pLL st fun x2 x1 t => some (pc + 1, lv, .int (lg_cmp x1 x2) :: t, M, c, d)
  | .dcmp op => g_pDD st fun x2 x1 t => some (pc + 1, lv, .int (Op.cmpValue (FP.dcmp x1 x2) op) :: t, M, c, d)
  | .ddiv => g_pDD st fun x2 x1 t => if FP.ddiv x1 x2 &&& 0x7fffffffffffffff ≤ 0x7ff0000000000000 then some (pc + 1, lv, .double (FP.ddiv x1 x2) :: t, M, c, d) else none
  | .dmul => g_pDD st fun x2 x1 t => if FP.dmul x1 x2 &&& 0x7fffffffffffffff ≤ 0x7ff0000000000000 then some (pc + 1, lv, .double (FP.dmul x1 x2) :: t, M, c, d) else none
  | .dsub => g_pDD st fun x2 x1 t => if FP.dsub x1 x2 &&& 0x7fffffffffffffff ≤ 0x7ff0000000000000 then some (pc + 1, lv, .double (FP.dsub x1 x2) :: t, M, c, d) else none
  | .dconst v => if v = 0 then some (pc + 1, lv, .double FP.dconst0 :: st, M, c, d) else none
  | .dup => g_pV st fun v t => if v.category = 1 then some (pc + 1, lv, v :: v :: t, M, c, d) else none
  | .pop => g_pV st fun v t => if v.category = 1 then some (pc + 1, lv, t, M, c, d) else none
  | .dup_x1 => g_pVV st fun v2 v1 t => if v2.category = 1 ∧ v1.category = 1 then some (pc + 1, lv, v2 :: v1 :: v2 :: t, M, c, d) else none
  | .dup2 => g_pVV st fun v2 v1 t => if v2.category = 1 ∧ v1.category = 1 then some (pc + 1, lv, v2 :: v1 :: v2 :: v1 :: t, M, c, d) else none
  | .iload i => match lv.lookup i with
    | some (.int x) => some (pc + 2, lv, .int x :: st, M, c, d)
    | _ => none
  | .iload_n i => match lv.lookup (i : Nat) with
    | some (.int x) => some (pc + 1, lv, .int x :: st, M, c, d)
    | _ => none
  | .lload i => match lv.lookup i with
    | some (.long x) => some (pc + 2, lv, .long x :: st, M, c, d)
    | _ => none
  | .lload_n i => match lv.lookup (i : Nat) with
    | some (.long x) => some (pc + 1, lv, .long x :: st, M, c, d)
    | _ => none
  | .dload i => match lv.lookup i with
    | some (.double x) => some (pc + 2, lv, .double x :: st, M, c, d)
    | _ => none
  | .dload_n i => match lv.lookup (i : Nat) with
    | some (.double x) => some (pc + 1, lv, .double x :: st, M, c, d)
    | _ => none
  | .aload i => match lv.lookup i with
    | some (.ref x) => some (pc + 2, lv, .ref x :: st, M, c, d)
    | _ => none
  | .aload_n i => match lv.lookup (i : Nat) with
    | some (.ref x) => some (pc + 1, lv, .ref x :: st, M, c, d)
    | _ => none
  | .istore i => g_pI st fun x t => if i < gLo y then some (pc + 2, g_st1 lv i (.int x), t, M, c, d) else none
  | .istore_n i => g_pI st fun x t => if (i : Nat) < gLo y then some (pc + 1, g_st1 lv (i : Nat) (.int x), t, M, c, d) else none
  | .lstore i => g_pL st fun x t => if i + 1 < gLo y then some (pc + 2, g_st2 lv i (.long x), t, M, c, d) else none
  | .lstore_n i => g_pL st fun x t => if (i : Nat) + 1 < gLo y then some (pc + 1, g_st2 lv (i : Nat) (.long x), t, M, c, d) else none
  | .dstore i => g_pD st fun x t => if i + 1 < gLo y then some (pc + 2, g_st2 lv i (.double x), t, M, c, d) else none
  | .dstore_n i => g_pD st fun x t => if (i : Nat) + 1 < gLo y then some (pc + 1, g_st2 lv (i : Nat) (.double x), t, M, c, d) else none
  | .astore i => g_pR st fun a t => if i < gLo y then some (pc + 2, g_st1 lv i (.ref a), t, M, c, d) else none
  | .astore_n i => g_pR st fun a t => if (i : Nat) < gLo y then some (pc + 1, g_st1 lv (i : Nat) (.ref a), t, M, c, d) else none
  | .iinc i v => match lv.lookup i with
    | some (.int x) => if i < gLo y then some (pc + 3, g_st1 lv i (.int (x + Int32.ofInt v)), st, M, c, d) else none
    | _ => none
  | .ifCond cd off => (g_tg pc off).bind fun tg => g_pI st fun x t => some (if g_c1 cd x then tg else pc + 3, lv, t, M, c, d)
  | .if_icmp cd off => (g_tg pc off).bind fun tg => g_pII st fun x2 x1 t => some (if g_c2 cd x1 x2 then tg else pc + 3, lv, t, M, c, d)
  | .goto off => (g_tg pc off).bind fun tg => some (tg, lv, st, M, c, d)
  | .ifnull off => (g_tg pc off).bind fun tg => g_pV st fun v t => match v with
    | .ref _ => some (pc + 3, lv, t, M, c, d)
    | .null => some (tg, lv, t, M, c, d)
    | _ => none
  | .ifnonnull off => (g_tg pc off).bind fun tg => g_pV st fun v t => match v with
    | .ref _ => some (tg, lv, t, M, c, d)
    | .null => some (pc + 3, lv, t, M, c, d)
    | _ => none
  | .tableswitch df lo hi offs => g_pI st fun x t => if x.toInt < lo ∨ hi < x.toInt then (g_tg pc df).bind fun tg => some (tg, lv, t, M, c, d) else (offs[(x.toInt - lo).toNat]?).bind fun off => (g_tg pc off).bind fun tg => some (tg, lv, t, M, c, d)
  | .ldc ix => match gCs y ix with
    | some (.int x, _) => some (pc + 2, lv, .int x :: st, M, c, d)
    | _ => none
  | .ldc2_w ix => match gCs y ix with
    | some (.long x, _) => some (pc + 3, lv, .long x :: st, M, c, d)
    | some (.double x, _) => some (pc + 3, lv, .double x :: st, M, c, d)
    | _ => none
  | .getfield ix => match gFld y ix with
    | none => none
    | some (ci, k, _, _, _) => g_pR st fun a t => match g_rd M a with
      | some (.inl (cj, fs)) => if cj = ci then (fs[k]?).bind fun v => some (pc + 3, lv, v :: t, M, c, d) else none
      | _ => none
  | .putfield ix => match gFld y ix with
    | none => none
    | some (ci, k, _, host, _) => g_pRV st fun v a t => match g_rd M a with
      | some (.inl (cj, fs)) => if cj = ci ∧ k < fs.length ∧ g_put (g_ft ci k) v = true ∧ g_ok M.1 v = true ∧ g_pf y ci k host = true then some (pc + 3, lv, t, (M.1, va_up M.2 a (some (.inl (ci, fs.set k v)))), c, d) else none
      | _ => none
  | .new ix => match gNw y ix with
    | none => none
    | some (ci, _, _, _) => if lv.all (fun q => g_ok M.1 q.2) = true ∧ st.all (g_ok M.1) = true then some (pc + 3, lv, .ref M.1 :: st, (M.1 + 1, va_up M.2 M.1 (some (.inl (ci, g_df ci)))), c + 1, d + (g_cl ci).2.2) else none
  | .newarray at_ => g_pI st fun x t => if ¬ x < 0 ∧ x.toNatClampNeg ≤ 65536 ∧ lv.all (fun q => g_ok M.1 q.2) = true ∧ t.all (g_ok M.1) = true then (match at_ with
      | .int => some (pc + 2, lv, .ref M.1 :: t, (M.1 + 1, va_up M.2 M.1 (some (.inr (0, x.toNatClampNeg, .inl (fun _ => 0))))), c + 1, d + x.toNatClampNeg)
      | .long => some (pc + 2, lv, .ref M.1 :: t, (M.1 + 1, va_up M.2 M.1 (some (.inr (1, x.toNatClampNeg, .inr (.inl (fun _ => 0)))))), c + 1, d + x.toNatClampNeg)
      | _ => none) else none
  | .anewarray ix => match gAn y ix with
    | none => none
    | some (tg, _, _) => g_pI st fun x t => if ¬ x < 0 ∧ x.toNatClampNeg ≤ 65536 ∧ lv.all (fun q => g_ok M.1 q.2) = true ∧ t.all (g_ok M.1) = true then some (pc + 3, lv, .ref M.1 :: t, (M.1 + 1, va_up M.2 M.1 (some (.inr (tg, x.toNatClampNeg, .inr (.inr (fun _ => none)))))), c + 1, d + x.toNatClampNeg) else none
  | .arraylength => g_pR st fun a t => if a = 0 then some (pc + 1, lv, .int (Int32.ofNat L) :: t, M, c, d) else if a = 1 then some (pc + 1, lv, .int 0 :: t, M, c, d) else match g_rd M a with
      | some (.inr (_, n, _)) => some (pc + 1, lv, .int (Int32.ofNat n) :: t, M, c, d)
      | _ => none
  | .iaload => g_pRI st fun i a t => if a = 0 then (if g_ix i L = true then some (pc + 1, lv, .int (xs i.toNatClampNeg) :: t, M, c, d) else none) else match g_rd M a with
      | some (.inr (0, n, .inl f)) => if g_ix i n = true then some (pc + 1, lv, .int (f i.toNatClampNeg) :: t, M, c, d) else none
      | _ => none
  | .laload => g_pRI st fun i a t => match g_rd M a with
      | some (.inr (1, n, .inr (.inl f))) => if g_ix i n = true then some (pc + 1, lv, .long (f i.toNatClampNeg) :: t, M, c, d) else none
      | _ => none
  | .aaload => g_pRI st fun i a t => match g_rd M a with
      | some (.inr (tg, n, .inr (.inr f))) => if g_ix i n = true ∧ g_obj tg = true then some (pc + 1, lv, va_rf (f i.toNatClampNeg) :: t, M, c, d) else none
      | _ => none
  | .iastore => g_pRII st fun x i a t => match g_rd M a with
      | some (.inr (0, n, .inl f)) => if g_ix i n = true then some (pc + 1, lv, t, (M.1, va_up M.2 a (some (.inr (0, n, .inl (upd f i.toNatClampNeg x))))), c, d) else none
      | _ => none
  | .lastore => g_pRIL st fun x i a t => match g_rd M a with
      | some (.inr (1, n, .inr (.inl f))) => if g_ix i n = true then some (pc + 1, lv, t, (M.1, va_up M.2 a (some (.inr (1, n, .inr (.inl (vp_updL f i.toNatClampNeg x)))))), c, d) else none
      | _ => none
  | .aastore => g_pRIR st fun v i a t => match g_rd M a, g_rd M v with
      | some (.inr (tg, n, .inr (.inr f))), some (.inl (ci, _)) => if g_ix i n = true ∧ g_tys[tg]? = some (.object (g_cl ci).1) ∧ ci < vwCl.length then some (pc + 1, lv, t, (M.1, va_up M.2 a (some (.inr (tg, n, .inr (.inr (va_up f i.toNatClampNeg (some v))))))), c, d) else if g_ix i n = true ∧ g_casO tg ci = true then some (pc + 1, lv, t, (M.1, va_up M.2 a (some (.inr (tg, n, .inr (.inr (va_up f i.toNatClampNeg (some v))))))), c, d) else none
      | some (.inr (tg, n, .inr (.inr f))), some (.inr (0, _, .inl _)) => if g_ix i n = true ∧ g_casI tg = true then some (pc + 1, lv, t, (M.1, va_up M.2 a (some (.inr (tg, n, .inr (.inr (va_up f i.toNatClampNeg (some v))))))), c, d) else none
      | _, _ => none
  | .invokestatic ix => match gIv y ix with
    | some (_, _, 101, _) => g_pII st fun x2 x1 t => if (t.map fun v => v.category).sum ≤ 8 ∧ 1 ≤ gF y ∧ 21 ≤ gW y then some (pc + 3, lv, .int (if x1 < x2 then x2 else x1) :: t, M, c, d) else none
    | some (_, _, 102, _) => g_pII st fun x2 x1 t => if (t.map fun v => v.category).sum ≤ 8 ∧ 1 ≤ gF y ∧ 21 ≤ gW y then some (pc + 3, lv, .int (if x2 < x1 then x2 else x1) :: t, M, c, d) else none
    | some (_, _, 104, _) => match st with
      | .int n :: .int dp :: .ref a :: .int sp :: .ref a0 :: t => match g_rd M a0, g_rd M a with
        | some (.inr (0, n0, .inl f)), some (.inr (0, n1, .inl g)) => if ¬ sp < 0 ∧ ¬ dp < 0 ∧ ¬ n < 0 ∧ sp.toNatClampNeg + n.toNatClampNeg ≤ n0 ∧ dp.toNatClampNeg + n.toNatClampNeg ≤ n1 ∧ (t.map fun v => v.category).sum ≤ 8 ∧ 1 ≤ gF y ∧ 26 ≤ gW y then some (pc + 3, lv, t, (M.1, va_up M.2 a (some (.inr (0, n1, .inl (va_cpy f g sp.toNatClampNeg dp.toNatClampNeg n.toNatClampNeg))))), c, d) else none
        | _, _ => none
      | _ => none
    | some (_, _, 103, _) => g_pI st fun x t => if (t.map fun v => v.category).sum ≤ 8 ∧ 1 ≤ gF y ∧ 21 ≤ gW y then some (pc + 3, lv, .int (if 0 ≤ x then x else 0 - x) :: t, M, c, d) else none
    | _ => none
  | .getstatic ix => match gSt y ix with
    | some _ => some (pc + 3, lv, .ref 1 :: st, M, c, d)
    | none => none
  | .if_acmp cd off => (g_tg pc off).bind fun tg => g_pVV st fun v2 v1 t => match v2, v1 with
    | .ref a2, .ref a1 => if a1 = a2 then (match cd with
      | .eq => some (tg, lv, t, M, c, d)
      | .ne => some (pc + 3, lv, t, M, c, d)) else none
    | _, _ => none
  | .invokespecial ix => match gIv y ix with
    | some (_, _, 100, _) => g_pR st fun a t => if (t.map fun v => v.category).sum ≤ 8 ∧ 1 ≤ gF y ∧ 21 ≤ gW y then some (pc + 3, lv, t, M, c, d) else none
    | _ => none
  | _ => none
end
section
theorem g_w {args : Array Value} {s : State} (hts : ∀ w ∈ lw_tbl, g_gw w = true → va_Nw w s) {w : Cond} {j : Nat} (h : lw_tbl[j]? = some w ∧ g_gw w = true) : w.before args s = true :=
  g_gw_moved (State.WarmedH.refl s) h.2 (hts w (List.mem_of_getElem? h.1) h.2)
def gp_w (j : Nat) (w : Cond) : Bool := decide (lw_tbl[j]? = some w) && g_gw w
theorem gp_w_ok {j : Nat} {w : Cond} (h : gp_w j w = true) : lw_tbl[j]? = some w ∧ g_gw w = true := by
  simp only [gp_w, Bool.and_eq_true, decide_eq_true_eq] at h
  exact h
def gp_lk (own : String) (ix : Nat) (ref n ds : String) (host : Option String) : Cond := match host with
  | none => .fieldLink own ix ref n ds
  | some h => .fieldLinkNest own ix ref n ds h
def gp_fl (c ix : Nat) (v : Nat × Nat × Nat × Option String × String) : Bool := match v with
  | (ci, k, j, host, ref) => decide (ci < vwCl.length) && (decide (k < (g_cl ci).2.2) && ((decide (ref = ((g_cl ci).2.1 k).1) || lw_tbl.any (fun w => decide (w = .sameField ref ((g_cl ci).2.1 k).1 ((g_cl ci).2.1 k).2.1 ((g_cl ci).2.1 k).2.2.1) && g_gw w)) && gp_w j (gp_lk (gc_N.getD c "") ix ref ((g_cl ci).2.1 k).2.1 ((g_cl ci).2.1 k).2.2.1 host)))
set_option maxRecDepth 100000 in
theorem gv_fl : (List.range gc_fl.length).all (fun c => (gc_fl.getD c []).all (fun e => gp_fl c e.1 e.2)) = true := by decide +kernel
def gp_nw (c ix : Nat) (v : Nat × Nat × Nat × Nat) : Bool := match v with
  | (ci, j, j1, j2) => decide (ci < vwCl.length) && (gp_w j (.classLink (gc_N.getD c "") ix (g_cl ci).1) && (gp_w j1 (.instantiable (g_cl ci).1 (g_cl ci).2.2) && gp_w j2 (.initialized (g_cl ci).1)))
set_option maxRecDepth 100000 in
theorem gv_nw : (List.range gc_nw.length).all (fun c => (gc_nw.getD c []).all (fun e => gp_nw c e.1 e.2)) = true := by decide +kernel
def gp_an (c ix : Nat) (v : Nat × Nat × Nat) : Bool := match v with
  | (tg, j, j1) => match g_tys[tg]? with
    | some (.object C) => gp_w j (.classLink (gc_N.getD c "") ix C)
    | _ => false
set_option maxRecDepth 100000 in
theorem gv_an : (List.range gc_an.length).all (fun c => (gc_an.getD c []).all (fun e => gp_an c e.1 e.2)) = true := by decide +kernel
def gp_cs (c ix : Nat) (v : Value × Nat) : Bool := match v with
  | (.int x, j) => gp_w j (.constant (gc_N.getD c "") ix x)
  | (.long x, j) => gp_w j (.constantLong (gc_N.getD c "") ix x)
  | (.double x, j) => gp_w j (.constantDouble (gc_N.getD c "") ix x)
  | _ => false
set_option maxRecDepth 100000 in
theorem gv_cs : (List.range gc_cs.length).all (fun c => (gc_cs.getD c []).all (fun e => gp_cs c e.1 e.2)) = true := by decide +kernel
theorem gv_cs_int {y ix : Nat} {x : Int32} {j : Nat} (h : gCs y ix = some (.int x, j)) : lw_tbl[j]? = some (.constant (gOwn y) ix x) ∧ g_gw (.constant (gOwn y) ix x) = true := gp_w_ok (g_look gv_cs h)
theorem gv_cs_long {y ix : Nat} {x : Int64} {j : Nat} (h : gCs y ix = some (.long x, j)) : lw_tbl[j]? = some (.constantLong (gOwn y) ix x) ∧ g_gw (.constantLong (gOwn y) ix x) = true := gp_w_ok (g_look gv_cs h)
theorem gv_cs_double {y ix : Nat} {x : UInt64} {j : Nat} (h : gCs y ix = some (.double x, j)) : lw_tbl[j]? = some (.constantDouble (gOwn y) ix x) ∧ g_gw (.constantDouble (gOwn y) ix x) = true := gp_w_ok (g_look gv_cs h)
def gp_cl (ci : Nat) : Bool := (u_ws (g_cl ci).1 (g_cl ci).2.1 (g_cl ci).2.2).all (fun w => lw_tbl.any (fun w2 => decide (w2 = w)) && g_gw w) && ((List.range (g_cl ci).2.2).all (fun k => decide (parseFieldDescriptor ((g_cl ci).2.1 k).2.2.1 = some (g_ft ci k))) && (List.range (g_cl ci).2.2).all (fun a => (List.range (g_cl ci).2.2).all (fun b => a == b || decide (((g_cl ci).2.1 a).2.1 ≠ ((g_cl ci).2.1 b).2.1))))
set_option maxRecDepth 100000 in
theorem gv_cl : (List.range vwCl.length).all gp_cl = true := by decide +kernel
theorem g_cl_at {ci : Nat} (h : ci < vwCl.length) : vwCl[ci]? = some ((g_cl ci).1, (g_cl ci).2.1, (g_cl ci).2.2) := by
  show vwCl[ci]? = some (g_cl ci)
  unfold g_cl
  rw [List.getD_eq_getElem?_getD, List.getElem?_eq_getElem h]
  rfl
theorem g_cl_ok {ci : Nat} (h : ci < vwCl.length) : (∀ w ∈ u_ws (g_cl ci).1 (g_cl ci).2.1 (g_cl ci).2.2, w ∈ lw_tbl ∧ g_gw w = true) ∧ (∀ k, k < (g_cl ci).2.2 → parseFieldDescriptor ((g_cl ci).2.1 k).2.2.1 = some (g_ft ci k)) ∧ (∀ a, a < (g_cl ci).2.2 → ∀ b, b < (g_cl ci).2.2 → a ≠ b → ((g_cl ci).2.1 a).2.1 ≠ ((g_cl ci).2.1 b).2.1) := by
  have h1 := List.all_eq_true.mp gv_cl ci (List.mem_range.mpr h)
  simp only [gp_cl, Bool.and_eq_true] at h1
  obtain ⟨h1, h2, h3⟩ := h1
  refine ⟨fun w hw => ?_, fun k hk => ?_, fun a ha b hb hab => ?_⟩
  · have h4 := List.all_eq_true.mp h1 w hw
    simp only [Bool.and_eq_true, List.any_eq_true, decide_eq_true_eq] at h4
    obtain ⟨⟨w2, hm, rfl⟩, h5⟩ := h4
    exact ⟨hm, h5⟩
  · exact of_decide_eq_true (List.all_eq_true.mp h2 k (List.mem_range.mpr hk))
  · have h4 := List.all_eq_true.mp (List.all_eq_true.mp h3 a (List.mem_range.mpr ha)) b (List.mem_range.mpr hb)
    simp only [Bool.or_eq_true, beq_iff_eq, decide_eq_true_eq] at h4
    rcases h4 with h4 | h4
    · exact absurd h4 hab
    · exact h4
theorem g_fl_ok {y ix ci k j : Nat} {host : Option String} {ref : String} (h : gFld y ix = some (ci, k, j, host, ref)) : ci < vwCl.length ∧ k < (g_cl ci).2.2 ∧ (ref = ((g_cl ci).2.1 k).1 ∨ ∃ j2 : Nat, lw_tbl[j2]? = some (.sameField ref ((g_cl ci).2.1 k).1 ((g_cl ci).2.1 k).2.1 ((g_cl ci).2.1 k).2.2.1) ∧ g_gw (.sameField ref ((g_cl ci).2.1 k).1 ((g_cl ci).2.1 k).2.1 ((g_cl ci).2.1 k).2.2.1) = true) ∧ gp_w j (gp_lk (gOwn y) ix ref ((g_cl ci).2.1 k).2.1 ((g_cl ci).2.1 k).2.2.1 host) = true := by
  have h1 := g_look gv_fl h
  simp only [gp_fl, Bool.and_eq_true, Bool.or_eq_true, decide_eq_true_eq, List.any_eq_true] at h1
  obtain ⟨h2, h3, h4, h5⟩ := h1
  refine ⟨h2, h3, ?_, h5⟩
  rcases h4 with h4 | ⟨w, hm, rfl, hg⟩
  · exact Or.inl h4
  · obtain ⟨j2, hj⟩ := List.getElem?_of_mem hm
    exact Or.inr ⟨j2, hj, hg⟩
theorem g_nw_ok {y ix ci j j1 j2 : Nat} (h : gNw y ix = some (ci, j, j1, j2)) : ci < vwCl.length ∧ gp_w j (.classLink (gOwn y) ix (g_cl ci).1) = true ∧ gp_w j1 (.instantiable (g_cl ci).1 (g_cl ci).2.2) = true ∧ gp_w j2 (.initialized (g_cl ci).1) = true := by
  have h1 := g_look gv_nw h
  simp only [gp_nw, Bool.and_eq_true, decide_eq_true_eq] at h1
  exact h1
theorem g_an_ok {y ix tg j j1 : Nat} (h : gAn y ix = some (tg, j, j1)) : ∃ C, g_tys[tg]? = some (.object C) ∧ gp_w j (.classLink (gOwn y) ix C) = true := by
  have h1 := g_look gv_an h
  simp only [gp_an] at h1
  split at h1
  · next C hC =>
    exact ⟨C, hC, h1⟩
  · cases h1
def gp_iv (c ix : Nat) (v : Nat × Nat × Nat × Nat × Nat × Nat × Nat × Nat × Option String) : Bool := match v with
  | (z, na, kd, ci, j, j1, j2, j3, host) =>
    if kd = 100 then gp_w j (.methodLink (gc_N.getD c "") ix Lib.objectInit) && (gp_w j1 (.instanceMethod Lib.objectInit) && gp_w j2 (.code Lib.objectInit ⟨#[0xb1]⟩ 1 none))
    else if kd = 101 then gp_w j (.methodLink (gc_N.getD c "") ix Lib.Math.max.name) && (gp_w j1 (.static Lib.Math.max.name) && (gp_w j2 (.code Lib.Math.max.name Lib.Math.max.code 2 (some .int)) && gp_w j3 (.initialized "java/lang/Math")))
    else if kd = 102 then gp_w j (.methodLink (gc_N.getD c "") ix Lib.Math.min.name) && (gp_w j1 (.static Lib.Math.min.name) && (gp_w j2 (.code Lib.Math.min.name Lib.Math.min.code 2 (some .int)) && gp_w j3 (.initialized "java/lang/Math")))
    else if kd = 103 then gp_w j (.methodLink (gc_N.getD c "") ix Lib.Math.abs.name) && (gp_w j1 (.static Lib.Math.abs.name) && (gp_w j2 (.code Lib.Math.abs.name Lib.Math.abs.code 1 (some .int)) && gp_w j3 (.initialized "java/lang/Math")))
    else if kd = 104 then gp_w j (.methodLink (gc_N.getD c "") ix arraycopyName) && (gp_w j1 (.native arraycopyName) && (gp_w j2 (.static arraycopyName) && gp_w j3 (.initialized "java/lang/System")))
    else decide (z < gm_CI.length) && (decide ((parseMethodDescriptor (gN z).desc).map (fun d => d.parameters.length) = some na) && ((match host with
      | none => gp_w j (.methodLink (gc_N.getD c "") ix (gN z))
      | some h => gp_w j (.methodLinkNest (gc_N.getD c "") ix (gN z) h)) && (if kd = 0 ∨ kd = 3 ∨ kd = 6 then gp_w j1 (.static (gN z)) && decide (host.isSome = decide (kd = 3))
        else if kd = 1 ∨ kd = 4 then gp_w j1 (.instanceMethod (gN z)) && (gp_w j2 (.selects (gN z).cls (gN z) (gN z)) && (decide (host.isSome = decide (kd = 4)) && (decide (ci < vwCl.length) && decide ((g_cl ci).1 = (gN z).cls))))
        else if kd = 2 ∨ kd = 5 then gp_w j1 (.instanceMethod (gN z)) && (decide (host.isSome = decide (kd = 5)) && (decide ((gN z).name = "<init>") && decide (gR z = none)))
        else false)))
set_option maxRecDepth 100000 in
theorem gv_iv : (List.range gc_iv.length).all (fun c => (gc_iv.getD c []).all (fun e => gp_iv c e.1 e.2)) = true := by decide +kernel
/-- a method of the tables: its code's word, its class's -/
def gp_me (y : Nat) : Bool := (decide (y = g_ylaw) || gp_w (gm_wc.getD y 0) (if gm_hw.getD y false then .codeWith (gN y) (gC y) (gLo y) (gR y) (gH y) else .code (gN y) (gC y) (gLo y) (gR y))) && (gp_w (gm_wi.getD y 0) (.initialized (gN y).cls) && (decide ((gN y).cls = gOwn y) && (decide ((gN y).cls ≠ "java/lang/invoke/MethodHandle" ∧ (gN y).cls ≠ "java/lang/invoke/VarHandle") && (plainName (gN y).cls && (gm_hw.getD y false || decide (gH y = []))))))
theorem gv_acI : gp_w g_acI (.arrayClass .int) = true := by decide +kernel
theorem gv_acJ : gp_w g_acJ (.arrayClass .long) = true := by decide +kernel
abbrev gn_AL : String := "java/util/ArrayList"
abbrev gn_ED : String := "DEFAULTCAPACITY_EMPTY_ELEMENTDATA"
abbrev gn_dO : String := "[Ljava/lang/Object;"
def gp_st (c ix j : Nat) : Bool := gp_w j (.fieldLink (gc_N.getD c "") ix gn_AL gn_ED gn_dO)
theorem gv_st : (List.range gc_st.length).all (fun c => (gc_st.getD c []).all (fun e => gp_st c e.1 e.2)) = true := by decide +kernel
def g_if (fi : Nat) : Nat × Nat × MethodName × Nat × Nat × Nat × Nat × Nat × Nat × Nat := g_ifs.getD fi (0, 0, ⟨"", "", ""⟩, 0, 0, 0, 0, 0, 0, 0)
def gp_if (c ix : Nat) (v : Nat × Nat) : Bool := decide (v.1 < g_ifs.length) && gp_w v.2 (.methodLink (gc_N.getD c "") ix (g_if v.1).2.2.1)
theorem gv_if : (List.range gc_if.length).all (fun c => (gc_if.getD c []).all (fun e => gp_if c e.1 e.2)) = true := by decide +kernel
def gp_e (j : Nat) (w : Cond) : Bool := decide (lw_tbl[j]? = some w)
def gp_ifs (q : Nat × Nat × MethodName × Nat × Nat × Nat × Nat × Nat × Nat × Nat) : Bool := match q with
  | (ci, z, x, jd, jf, js, ji, jp, ju, jc) => decide (ci < vwCl.length) && (decide (z < gm_CI.length) && (decide (x.cls ≠ "java/lang/invoke/MethodHandle" ∧ x.cls ≠ "java/lang/invoke/VarHandle") && (decide ((parseMethodDescriptor x.desc).map (fun d => d.parameters.length) = some 0) && (decide (gm_hw.getD z false = false) && (gp_w jd (.declares x) && (gp_e jf (.interfaceMethod x.cls x.cls x.name x.desc) && (gp_w js (.selects (g_cl ci).1 x (gN z)) && (gp_w ji (.instanceMethod (gN z)) && (gp_e jp (.publicMethod (gN z)) && (gp_e ju (.unhidden (g_cl ci).1 x.name x.desc) && gp_w jc (.castable (g_cl ci).1 x.cls)))))))))))
set_option maxRecDepth 100000 in
theorem gv_ifs : g_ifs.all gp_ifs = true := by decide +kernel
set_option maxRecDepth 100000 in
theorem gv_ca : g_ca.all (fun u => decide (u.2.1 < vwCl.length) && (decide (g_tys[u.1]? = some (.object "java/lang/Object")) && gp_w u.2.2 (.castable (g_cl u.2.1).1 "java/lang/Object"))) = true := by decide +kernel
set_option maxRecDepth 100000 in
theorem gv_caI : g_caI.all (fun u => decide (g_tys[u.1]? = some (.object "java/lang/Object")) && gp_w u.2 (.castable "[I" "java/lang/Object")) = true := by decide +kernel
end
section
set_option maxRecDepth 100000 in
theorem gv_me_0 : gp_me 0 = true := by decide +kernel
set_option maxRecDepth 100000 in
theorem gv_me_1 : gp_me 1 = true := by decide +kernel
set_option maxRecDepth 100000 in
theorem gv_me_2 : gp_me 2 = true := by decide +kernel
set_option maxRecDepth 100000 in
theorem gv_me_3 : gp_me 3 = true := by decide +kernel
set_option maxRecDepth 100000 in
theorem gv_me_4 : gp_me 4 = true := by decide +kernel
set_option maxRecDepth 100000 in
theorem gv_me_5 : gp_me 5 = true := by decide +kernel
set_option maxRecDepth 100000 in
theorem gv_me_6 : gp_me 6 = true := by decide +kernel
set_option maxRecDepth 100000 in
theorem gv_me_7 : gp_me 7 = true := by decide +kernel
set_option maxRecDepth 100000 in
theorem gv_me_8 : gp_me 8 = true := by decide +kernel
set_option maxRecDepth 100000 in
theorem gv_me_9 : gp_me 9 = true := by decide +kernel
set_option maxRecDepth 100000 in
theorem gv_me_10 : gp_me 10 = true := by decide +kernel
set_option maxRecDepth 100000 in
theorem gv_me_11 : gp_me 11 = true := by decide +kernel
set_option maxRecDepth 100000 in
theorem gv_me_12 : gp_me 12 = true := by decide +kernel
set_option maxRecDepth 100000 in
theorem gv_me_13 : gp_me 13 = true := by decide +kernel
set_option maxRecDepth 100000 in
theorem gv_me_14 : gp_me 14 = true := by decide +kernel
set_option maxRecDepth 100000 in
theorem gv_me_15 : gp_me 15 = true := by decide +kernel
set_option maxRecDepth 100000 in
theorem gv_me_16 : gp_me 16 = true := by decide +kernel
set_option maxRecDepth 100000 in
theorem gv_me_17 : gp_me 17 = true := by decide +kernel
set_option maxRecDepth 100000 in
theorem gv_me_18 : gp_me 18 = true := by decide +kernel
set_option maxRecDepth 100000 in
theorem gv_me_19 : gp_me 19 = true := by decide +kernel
set_option maxRecDepth 100000 in
theorem gv_me_20 : gp_me 20 = true := by decide +kernel
set_option maxRecDepth 100000 in
theorem gv_me_21 : gp_me 21 = true := by decide +kernel
set_option maxRecDepth 100000 in
theorem gv_me_22 : gp_me 22 = true := by decide +kernel
set_option maxRecDepth 100000 in
theorem gv_me_23 : gp_me 23 = true := by decide +kernel
set_option maxRecDepth 100000 in
theorem gv_me_24 : gp_me 24 = true := by decide +kernel
set_option maxRecDepth 100000 in
theorem gv_me_25 : gp_me 25 = true := by decide +kernel
set_option maxRecDepth 100000 in
theorem gv_me_26 : gp_me 26 = true := by decide +kernel
set_option maxRecDepth 100000 in
theorem gv_me_27 : gp_me 27 = true := by decide +kernel
set_option maxRecDepth 100000 in
theorem gv_me_28 : gp_me 28 = true := by decide +kernel
set_option maxRecDepth 100000 in
theorem gv_me_29 : gp_me 29 = true := by decide +kernel
set_option maxRecDepth 100000 in
theorem gv_me_30 : gp_me 30 = true := by decide +kernel
set_option maxRecDepth 100000 in
theorem gv_me_31 : gp_me 31 = true := by decide +kernel
set_option maxRecDepth 100000 in
theorem gv_me_32 : gp_me 32 = true := by decide +kernel
set_option maxRecDepth 100000 in
theorem gv_me_33 : gp_me 33 = true := by decide +kernel
set_option maxRecDepth 100000 in
theorem gv_me_34 : gp_me 34 = true := by decide +kernel
set_option maxRecDepth 100000 in
theorem gv_me_35 : gp_me 35 = true := by decide +kernel
set_option maxRecDepth 100000 in
theorem gv_me_36 : gp_me 36 = true := by decide +kernel
set_option maxRecDepth 100000 in
theorem gv_me_37 : gp_me 37 = true := by decide +kernel
set_option maxRecDepth 100000 in
theorem gv_me_38 : gp_me 38 = true := by decide +kernel
set_option maxRecDepth 100000 in
theorem gv_me_39 : gp_me 39 = true := by decide +kernel
set_option maxRecDepth 100000 in
theorem gv_me_40 : gp_me 40 = true := by decide +kernel
set_option maxRecDepth 100000 in
theorem gv_me_41 : gp_me 41 = true := by decide +kernel
set_option maxRecDepth 100000 in
theorem gv_me_42 : gp_me 42 = true := by decide +kernel
set_option maxRecDepth 100000 in
theorem gv_me_43 : gp_me 43 = true := by decide +kernel
set_option maxRecDepth 100000 in
theorem gv_me_44 : gp_me 44 = true := by decide +kernel
set_option maxRecDepth 100000 in
theorem gv_me_45 : gp_me 45 = true := by decide +kernel
set_option maxRecDepth 100000 in
theorem gv_me_46 : gp_me 46 = true := by decide +kernel
set_option maxRecDepth 100000 in
theorem gv_me_47 : gp_me 47 = true := by decide +kernel
set_option maxRecDepth 100000 in
theorem gv_me_48 : gp_me 48 = true := by decide +kernel
set_option maxRecDepth 100000 in
theorem gv_me_49 : gp_me 49 = true := by decide +kernel
set_option maxRecDepth 100000 in
theorem gv_me_50 : gp_me 50 = true := by decide +kernel
set_option maxRecDepth 100000 in
theorem gv_me_51 : gp_me 51 = true := by decide +kernel
set_option maxRecDepth 100000 in
theorem gv_me_52 : gp_me 52 = true := by decide +kernel
set_option maxRecDepth 100000 in
theorem gv_me_53 : gp_me 53 = true := by decide +kernel
set_option maxRecDepth 100000 in
theorem gv_me_54 : gp_me 54 = true := by decide +kernel
set_option maxRecDepth 100000 in
theorem gv_me_55 : gp_me 55 = true := by decide +kernel
set_option maxRecDepth 100000 in
theorem gv_me_56 : gp_me 56 = true := by decide +kernel
set_option maxRecDepth 100000 in
theorem gv_me_57 : gp_me 57 = true := by decide +kernel
set_option maxRecDepth 100000 in
theorem gv_me_58 : gp_me 58 = true := by decide +kernel
set_option maxRecDepth 100000 in
theorem gv_me_59 : gp_me 59 = true := by decide +kernel
set_option maxRecDepth 100000 in
theorem gv_me_60 : gp_me 60 = true := by decide +kernel
set_option maxRecDepth 100000 in
theorem gv_me_61 : gp_me 61 = true := by decide +kernel
set_option maxRecDepth 100000 in
theorem gv_me_62 : gp_me 62 = true := by decide +kernel
set_option maxRecDepth 100000 in
theorem gv_me_63 : gp_me 63 = true := by decide +kernel
set_option maxRecDepth 100000 in
theorem gv_me_64 : gp_me 64 = true := by decide +kernel
set_option maxRecDepth 100000 in
theorem gv_me_65 : gp_me 65 = true := by decide +kernel
set_option maxRecDepth 100000 in
theorem gv_me_66 : gp_me 66 = true := by decide +kernel
set_option maxRecDepth 100000 in
theorem gv_me_67 : gp_me 67 = true := by decide +kernel
set_option maxRecDepth 100000 in
theorem gv_me_68 : gp_me 68 = true := by decide +kernel
set_option maxRecDepth 100000 in
theorem gv_me_69 : gp_me 69 = true := by decide +kernel
set_option maxRecDepth 100000 in
theorem gv_me_70 : gp_me 70 = true := by decide +kernel
set_option maxRecDepth 100000 in
theorem gv_me_71 : gp_me 71 = true := by decide +kernel
set_option maxRecDepth 100000 in
theorem gv_me_72 : gp_me 72 = true := by decide +kernel
set_option maxRecDepth 100000 in
theorem gv_me_73 : gp_me 73 = true := by decide +kernel
set_option maxRecDepth 100000 in
theorem gv_me_74 : gp_me 74 = true := by decide +kernel
set_option maxRecDepth 100000 in
theorem gv_me_75 : gp_me 75 = true := by decide +kernel
set_option maxRecDepth 100000 in
theorem gv_me_76 : gp_me 76 = true := by decide +kernel
set_option maxRecDepth 100000 in
theorem gv_me_77 : gp_me 77 = true := by decide +kernel
set_option maxRecDepth 100000 in
theorem gv_me_78 : gp_me 78 = true := by decide +kernel
set_option maxRecDepth 100000 in
theorem gv_me_79 : gp_me 79 = true := by decide +kernel
set_option maxRecDepth 100000 in
theorem gv_me_80 : gp_me 80 = true := by decide +kernel
set_option maxRecDepth 100000 in
theorem gv_me_81 : gp_me 81 = true := by decide +kernel
set_option maxRecDepth 100000 in
theorem gv_me_82 : gp_me 82 = true := by decide +kernel
set_option maxRecDepth 100000 in
theorem gv_me_83 : gp_me 83 = true := by decide +kernel
set_option maxRecDepth 100000 in
theorem gv_me_84 : gp_me 84 = true := by decide +kernel
set_option maxRecDepth 100000 in
theorem gv_me_85 : gp_me 85 = true := by decide +kernel
set_option maxRecDepth 100000 in
theorem gv_me_86 : gp_me 86 = true := by decide +kernel
set_option maxRecDepth 100000 in
theorem gv_me_87 : gp_me 87 = true := by decide +kernel
set_option maxRecDepth 100000 in
theorem gv_me_88 : gp_me 88 = true := by decide +kernel
set_option maxRecDepth 100000 in
theorem gv_me_89 : gp_me 89 = true := by decide +kernel
set_option maxRecDepth 100000 in
theorem gv_me_90 : gp_me 90 = true := by decide +kernel
set_option maxRecDepth 100000 in
theorem gv_me_91 : gp_me 91 = true := by decide +kernel
set_option maxRecDepth 100000 in
theorem gv_me_92 : gp_me 92 = true := by decide +kernel
set_option maxRecDepth 100000 in
theorem gv_me_93 : gp_me 93 = true := by decide +kernel
set_option maxRecDepth 100000 in
theorem gv_me_94 : gp_me 94 = true := by decide +kernel
set_option maxRecDepth 100000 in
theorem gv_me_95 : gp_me 95 = true := by decide +kernel
set_option maxRecDepth 100000 in
theorem gv_me_96 : gp_me 96 = true := by decide +kernel
set_option maxRecDepth 100000 in
theorem gv_me_97 : gp_me 97 = true := by decide +kernel
set_option maxRecDepth 100000 in
theorem gv_me_98 : gp_me 98 = true := by decide +kernel
set_option maxRecDepth 100000 in
theorem gv_me_99 : gp_me 99 = true := by decide +kernel
set_option maxRecDepth 100000 in
theorem gv_me_100 : gp_me 100 = true := by decide +kernel
set_option maxRecDepth 100000 in
theorem gv_me_101 : gp_me 101 = true := by decide +kernel
set_option maxRecDepth 100000 in
theorem gv_me_102 : gp_me 102 = true := by decide +kernel
set_option maxRecDepth 100000 in
theorem gv_me_103 : gp_me 103 = true := by decide +kernel
set_option maxRecDepth 100000 in
theorem gv_me_104 : gp_me 104 = true := by decide +kernel
set_option maxRecDepth 100000 in
theorem gv_me_105 : gp_me 105 = true := by decide +kernel
set_option maxRecDepth 100000 in
theorem gv_me_106 : gp_me 106 = true := by decide +kernel
set_option maxRecDepth 100000 in
theorem gv_me_107 : gp_me 107 = true := by decide +kernel
set_option maxRecDepth 100000 in
theorem gv_me_108 : gp_me 108 = true := by decide +kernel
set_option maxRecDepth 100000 in
theorem gv_me_109 : gp_me 109 = true := by decide +kernel
set_option maxRecDepth 100000 in
theorem gv_me_110 : gp_me 110 = true := by decide +kernel
set_option maxRecDepth 100000 in
theorem gv_me_111 : gp_me 111 = true := by decide +kernel
set_option maxRecDepth 100000 in
theorem gv_me_112 : gp_me 112 = true := by decide +kernel
set_option maxRecDepth 100000 in
theorem gv_me_113 : gp_me 113 = true := by decide +kernel
set_option maxRecDepth 100000 in
theorem gv_me_114 : gp_me 114 = true := by decide +kernel
set_option maxRecDepth 100000 in
theorem gv_me_115 : gp_me 115 = true := by decide +kernel
set_option maxRecDepth 100000 in
theorem gv_me_116 : gp_me 116 = true := by decide +kernel
set_option maxRecDepth 100000 in
theorem gv_me_117 : gp_me 117 = true := by decide +kernel
set_option maxRecDepth 100000 in
theorem gv_me_118 : gp_me 118 = true := by decide +kernel
set_option maxRecDepth 100000 in
theorem gv_me_119 : gp_me 119 = true := by decide +kernel
set_option maxRecDepth 100000 in
theorem gv_me_120 : gp_me 120 = true := by decide +kernel
set_option maxRecDepth 100000 in
theorem gv_me_121 : gp_me 121 = true := by decide +kernel
set_option maxRecDepth 100000 in
theorem gv_me_122 : gp_me 122 = true := by decide +kernel
set_option maxRecDepth 100000 in
theorem gv_me_123 : gp_me 123 = true := by decide +kernel
set_option maxRecDepth 100000 in
theorem gv_me_124 : gp_me 124 = true := by decide +kernel
set_option maxRecDepth 100000 in
theorem gv_me_125 : gp_me 125 = true := by decide +kernel
set_option maxRecDepth 100000 in
theorem gv_me_126 : gp_me 126 = true := by decide +kernel
set_option maxRecDepth 100000 in
theorem gv_me_127 : gp_me 127 = true := by decide +kernel
set_option maxRecDepth 100000 in
theorem gv_me_128 : gp_me 128 = true := by decide +kernel
set_option maxRecDepth 100000 in
theorem gv_me_129 : gp_me 129 = true := by decide +kernel
set_option maxRecDepth 100000 in
theorem gv_me_130 : gp_me 130 = true := by decide +kernel
set_option maxRecDepth 100000 in
theorem gv_me_131 : gp_me 131 = true := by decide +kernel
set_option maxRecDepth 100000 in
theorem gv_me_132 : gp_me 132 = true := by decide +kernel
set_option maxRecDepth 100000 in
theorem gv_me_133 : gp_me 133 = true := by decide +kernel
set_option maxRecDepth 100000 in
theorem gv_me_134 : gp_me 134 = true := by decide +kernel
set_option maxRecDepth 100000 in
theorem gv_me_135 : gp_me 135 = true := by decide +kernel
set_option maxRecDepth 100000 in
theorem gv_me_136 : gp_me 136 = true := by decide +kernel
set_option maxRecDepth 100000 in
theorem gv_me_137 : gp_me 137 = true := by decide +kernel
set_option maxRecDepth 100000 in
theorem gv_me_138 : gp_me 138 = true := by decide +kernel
set_option maxRecDepth 100000 in
theorem gv_me_139 : gp_me 139 = true := by decide +kernel
set_option maxRecDepth 100000 in
theorem gv_me_140 : gp_me 140 = true := by decide +kernel
set_option maxRecDepth 100000 in
theorem gv_me_141 : gp_me 141 = true := by decide +kernel
set_option maxRecDepth 100000 in
theorem gv_me_142 : gp_me 142 = true := by decide +kernel
set_option maxRecDepth 100000 in
theorem gv_me_143 : gp_me 143 = true := by decide +kernel
set_option maxRecDepth 100000 in
theorem gv_me_144 : gp_me 144 = true := by decide +kernel
set_option maxRecDepth 100000 in
theorem gv_me_145 : gp_me 145 = true := by decide +kernel
set_option maxRecDepth 100000 in
theorem gv_me_146 : gp_me 146 = true := by decide +kernel
set_option maxRecDepth 100000 in
theorem gv_me_147 : gp_me 147 = true := by decide +kernel
set_option maxRecDepth 100000 in
theorem gv_me_148 : gp_me 148 = true := by decide +kernel
set_option maxRecDepth 100000 in
theorem gv_me_149 : gp_me 149 = true := by decide +kernel
set_option maxRecDepth 100000 in
theorem gv_me_150 : gp_me 150 = true := by decide +kernel
set_option maxRecDepth 100000 in
theorem gv_me_151 : gp_me 151 = true := by decide +kernel
set_option maxRecDepth 100000 in
theorem gv_me_152 : gp_me 152 = true := by decide +kernel
set_option maxRecDepth 100000 in
theorem gv_me_153 : gp_me 153 = true := by decide +kernel
set_option maxRecDepth 100000 in
theorem gv_me_154 : gp_me 154 = true := by decide +kernel
set_option maxRecDepth 100000 in
theorem gv_me_155 : gp_me 155 = true := by decide +kernel
set_option maxRecDepth 100000 in
theorem gv_me_156 : gp_me 156 = true := by decide +kernel
set_option maxRecDepth 100000 in
theorem gv_me_157 : gp_me 157 = true := by decide +kernel
set_option maxRecDepth 100000 in
theorem gv_me_158 : gp_me 158 = true := by decide +kernel
set_option maxRecDepth 100000 in
theorem gv_me_159 : gp_me 159 = true := by decide +kernel
set_option maxRecDepth 100000 in
theorem gv_me_160 : gp_me 160 = true := by decide +kernel
set_option maxRecDepth 100000 in
theorem gv_me_161 : gp_me 161 = true := by decide +kernel
set_option maxRecDepth 100000 in
theorem gv_me_162 : gp_me 162 = true := by decide +kernel
set_option maxRecDepth 100000 in
theorem gv_me_163 : gp_me 163 = true := by decide +kernel
set_option maxRecDepth 100000 in
theorem gv_me_164 : gp_me 164 = true := by decide +kernel
set_option maxRecDepth 100000 in
theorem gv_me_165 : gp_me 165 = true := by decide +kernel
set_option maxRecDepth 100000 in
theorem gv_me_all : ∀ y ∈ ([0, 1, 2, 3, 4, 5, 6, 7, 8, 9, 10, 11, 12, 13, 14, 15, 16, 17, 18, 19, 20, 21, 22, 23, 24, 25, 26, 27, 28, 29, 30, 31, 32, 33, 34, 35, 36, 37, 38, 39, 40, 41, 42, 43, 44, 45, 46, 47, 48, 49, 50, 51, 52, 53, 54, 55, 56, 57, 58, 59, 60, 61, 62, 63, 64, 65, 66, 67, 68, 69, 70, 71, 72, 73, 74, 75, 76, 77, 78, 79, 80, 81, 82, 83, 84, 85, 86, 87, 88, 89, 90, 91, 92, 93, 94, 95, 96, 97, 98, 99, 100, 101, 102, 103, 104, 105, 106, 107, 108, 109, 110, 111, 112, 113, 114, 115, 116, 117, 118, 119, 120, 121, 122, 123, 124, 125, 126, 127, 128, 129, 130, 131, 132, 133, 134, 135, 136, 137, 138, 139, 140, 141, 142, 143, 144, 145, 146, 147, 148, 149, 150, 151, 152, 153, 154, 155, 156, 157, 158, 159, 160, 161, 162, 163, 164, 165] : List Nat), gp_me y = true := List.forall_mem_cons.mpr ⟨gv_me_0, List.forall_mem_cons.mpr ⟨gv_me_1, List.forall_mem_cons.mpr ⟨gv_me_2, List.forall_mem_cons.mpr ⟨gv_me_3, List.forall_mem_cons.mpr ⟨gv_me_4, List.forall_mem_cons.mpr ⟨gv_me_5, List.forall_mem_cons.mpr ⟨gv_me_6, List.forall_mem_cons.mpr ⟨gv_me_7, List.forall_mem_cons.mpr ⟨gv_me_8, List.forall_mem_cons.mpr ⟨gv_me_9, List.forall_mem_cons.mpr ⟨gv_me_10, List.forall_mem_cons.mpr ⟨gv_me_11, List.forall_mem_cons.mpr ⟨gv_me_12, List.forall_mem_cons.mpr ⟨gv_me_13, List.forall_mem_cons.mpr ⟨gv_me_14, List.forall_mem_cons.mpr ⟨gv_me_15, List.forall_mem_cons.mpr ⟨gv_me_16, List.forall_mem_cons.mpr ⟨gv_me_17, List.forall_mem_cons.mpr ⟨gv_me_18, List.forall_mem_cons.mpr ⟨gv_me_19, List.forall_mem_cons.mpr ⟨gv_me_20, List.forall_mem_cons.mpr ⟨gv_me_21, List.forall_mem_cons.mpr ⟨gv_me_22, List.forall_mem_cons.mpr ⟨gv_me_23, List.forall_mem_cons.mpr ⟨gv_me_24, List.forall_mem_cons.mpr ⟨gv_me_25, List.forall_mem_cons.mpr ⟨gv_me_26, List.forall_mem_cons.mpr ⟨gv_me_27, List.forall_mem_cons.mpr ⟨gv_me_28, List.forall_mem_cons.mpr ⟨gv_me_29, List.forall_mem_cons.mpr ⟨gv_me_30, List.forall_mem_cons.mpr ⟨gv_me_31, List.forall_mem_cons.mpr ⟨gv_me_32, List.forall_mem_cons.mpr ⟨gv_me_33, List.forall_mem_cons.mpr ⟨gv_me_34, List.forall_mem_cons.mpr ⟨gv_me_35, List.forall_mem_cons.mpr ⟨gv_me_36, List.forall_mem_cons.mpr ⟨gv_me_37, List.forall_mem_cons.mpr ⟨gv_me_38, List.forall_mem_cons.mpr ⟨gv_me_39, List.forall_mem_cons.mpr ⟨gv_me_40, List.forall_mem_cons.mpr ⟨gv_me_41, List.forall_mem_cons.mpr ⟨gv_me_42, List.forall_mem_cons.mpr ⟨gv_me_43, List.forall_mem_cons.mpr ⟨gv_me_44, List.forall_mem_cons.mpr ⟨gv_me_45, List.forall_mem_cons.mpr ⟨gv_me_46, List.forall_mem_cons.mpr ⟨gv_me_47, List.forall_mem_cons.mpr ⟨gv_me_48, List.forall_mem_cons.mpr ⟨gv_me_49, List.forall_mem_cons.mpr ⟨gv_me_50, List.forall_mem_cons.mpr ⟨gv_me_51, List.forall_mem_cons.mpr ⟨gv_me_52, List.forall_mem_cons.mpr ⟨gv_me_53, List.forall_mem_cons.mpr ⟨gv_me_54, List.forall_mem_cons.mpr ⟨gv_me_55, List.forall_mem_cons.mpr ⟨gv_me_56, List.forall_mem_cons.mpr ⟨gv_me_57, List.forall_mem_cons.mpr ⟨gv_me_58, List.forall_mem_cons.mpr ⟨gv_me_59, List.forall_mem_cons.mpr ⟨gv_me_60, List.forall_mem_cons.mpr ⟨gv_me_61, List.forall_mem_cons.mpr ⟨gv_me_62, List.forall_mem_cons.mpr ⟨gv_me_63, List.forall_mem_cons.mpr ⟨gv_me_64, List.forall_mem_cons.mpr ⟨gv_me_65, List.forall_mem_cons.mpr ⟨gv_me_66, List.forall_mem_cons.mpr ⟨gv_me_67, List.forall_mem_cons.mpr ⟨gv_me_68, List.forall_mem_cons.mpr ⟨gv_me_69, List.forall_mem_cons.mpr ⟨gv_me_70, List.forall_mem_cons.mpr ⟨gv_me_71, List.forall_mem_cons.mpr ⟨gv_me_72, List.forall_mem_cons.mpr ⟨gv_me_73, List.forall_mem_cons.mpr ⟨gv_me_74, List.forall_mem_cons.mpr ⟨gv_me_75, List.forall_mem_cons.mpr ⟨gv_me_76, List.forall_mem_cons.mpr ⟨gv_me_77, List.forall_mem_cons.mpr ⟨gv_me_78, List.forall_mem_cons.mpr ⟨gv_me_79, List.forall_mem_cons.mpr ⟨gv_me_80, List.forall_mem_cons.mpr ⟨gv_me_81, List.forall_mem_cons.mpr ⟨gv_me_82, List.forall_mem_cons.mpr ⟨gv_me_83, List.forall_mem_cons.mpr ⟨gv_me_84, List.forall_mem_cons.mpr ⟨gv_me_85, List.forall_mem_cons.mpr ⟨gv_me_86, List.forall_mem_cons.mpr ⟨gv_me_87, List.forall_mem_cons.mpr ⟨gv_me_88, List.forall_mem_cons.mpr ⟨gv_me_89, List.forall_mem_cons.mpr ⟨gv_me_90, List.forall_mem_cons.mpr ⟨gv_me_91, List.forall_mem_cons.mpr ⟨gv_me_92, List.forall_mem_cons.mpr ⟨gv_me_93, List.forall_mem_cons.mpr ⟨gv_me_94, List.forall_mem_cons.mpr ⟨gv_me_95, List.forall_mem_cons.mpr ⟨gv_me_96, List.forall_mem_cons.mpr ⟨gv_me_97, List.forall_mem_cons.mpr ⟨gv_me_98, List.forall_mem_cons.mpr ⟨gv_me_99, List.forall_mem_cons.mpr ⟨gv_me_100, List.forall_mem_cons.mpr ⟨gv_me_101, List.forall_mem_cons.mpr ⟨gv_me_102, List.forall_mem_cons.mpr ⟨gv_me_103, List.forall_mem_cons.mpr ⟨gv_me_104, List.forall_mem_cons.mpr ⟨gv_me_105, List.forall_mem_cons.mpr ⟨gv_me_106, List.forall_mem_cons.mpr ⟨gv_me_107, List.forall_mem_cons.mpr ⟨gv_me_108, List.forall_mem_cons.mpr ⟨gv_me_109, List.forall_mem_cons.mpr ⟨gv_me_110, List.forall_mem_cons.mpr ⟨gv_me_111, List.forall_mem_cons.mpr ⟨gv_me_112, List.forall_mem_cons.mpr ⟨gv_me_113, List.forall_mem_cons.mpr ⟨gv_me_114, List.forall_mem_cons.mpr ⟨gv_me_115, List.forall_mem_cons.mpr ⟨gv_me_116, List.forall_mem_cons.mpr ⟨gv_me_117, List.forall_mem_cons.mpr ⟨gv_me_118, List.forall_mem_cons.mpr ⟨gv_me_119, List.forall_mem_cons.mpr ⟨gv_me_120, List.forall_mem_cons.mpr ⟨gv_me_121, List.forall_mem_cons.mpr ⟨gv_me_122, List.forall_mem_cons.mpr ⟨gv_me_123, List.forall_mem_cons.mpr ⟨gv_me_124, List.forall_mem_cons.mpr ⟨gv_me_125, List.forall_mem_cons.mpr ⟨gv_me_126, List.forall_mem_cons.mpr ⟨gv_me_127, List.forall_mem_cons.mpr ⟨gv_me_128, List.forall_mem_cons.mpr ⟨gv_me_129, List.forall_mem_cons.mpr ⟨gv_me_130, List.forall_mem_cons.mpr ⟨gv_me_131, List.forall_mem_cons.mpr ⟨gv_me_132, List.forall_mem_cons.mpr ⟨gv_me_133, List.forall_mem_cons.mpr ⟨gv_me_134, List.forall_mem_cons.mpr ⟨gv_me_135, List.forall_mem_cons.mpr ⟨gv_me_136, List.forall_mem_cons.mpr ⟨gv_me_137, List.forall_mem_cons.mpr ⟨gv_me_138, List.forall_mem_cons.mpr ⟨gv_me_139, List.forall_mem_cons.mpr ⟨gv_me_140, List.forall_mem_cons.mpr ⟨gv_me_141, List.forall_mem_cons.mpr ⟨gv_me_142, List.forall_mem_cons.mpr ⟨gv_me_143, List.forall_mem_cons.mpr ⟨gv_me_144, List.forall_mem_cons.mpr ⟨gv_me_145, List.forall_mem_cons.mpr ⟨gv_me_146, List.forall_mem_cons.mpr ⟨gv_me_147, List.forall_mem_cons.mpr ⟨gv_me_148, List.forall_mem_cons.mpr ⟨gv_me_149, List.forall_mem_cons.mpr ⟨gv_me_150, List.forall_mem_cons.mpr ⟨gv_me_151, List.forall_mem_cons.mpr ⟨gv_me_152, List.forall_mem_cons.mpr ⟨gv_me_153, List.forall_mem_cons.mpr ⟨gv_me_154, List.forall_mem_cons.mpr ⟨gv_me_155, List.forall_mem_cons.mpr ⟨gv_me_156, List.forall_mem_cons.mpr ⟨gv_me_157, List.forall_mem_cons.mpr ⟨gv_me_158, List.forall_mem_cons.mpr ⟨gv_me_159, List.forall_mem_cons.mpr ⟨gv_me_160, List.forall_mem_cons.mpr ⟨gv_me_161, List.forall_mem_cons.mpr ⟨gv_me_162, List.forall_mem_cons.mpr ⟨gv_me_163, List.forall_mem_cons.mpr ⟨gv_me_164, List.forall_mem_cons.mpr ⟨gv_me_165, fun _ h => absurd h List.not_mem_nil⟩⟩⟩⟩⟩⟩⟩⟩⟩⟩⟩⟩⟩⟩⟩⟩⟩⟩⟩⟩⟩⟩⟩⟩⟩⟩⟩⟩⟩⟩⟩⟩⟩⟩⟩⟩⟩⟩⟩⟩⟩⟩⟩⟩⟩⟩⟩⟩⟩⟩⟩⟩⟩⟩⟩⟩⟩⟩⟩⟩⟩⟩⟩⟩⟩⟩⟩⟩⟩⟩⟩⟩⟩⟩⟩⟩⟩⟩⟩⟩⟩⟩⟩⟩⟩⟩⟩⟩⟩⟩⟩⟩⟩⟩⟩⟩⟩⟩⟩⟩⟩⟩⟩⟩⟩⟩⟩⟩⟩⟩⟩⟩⟩⟩⟩⟩⟩⟩⟩⟩⟩⟩⟩⟩⟩⟩⟩⟩⟩⟩⟩⟩⟩⟩⟩⟩⟩⟩⟩⟩⟩⟩⟩⟩⟩⟩⟩⟩⟩⟩⟩⟩⟩⟩⟩⟩⟩⟩⟩⟩⟩⟩⟩⟩⟩⟩
theorem gv_me {y : Nat} (h : y < gm_CI.length) : gp_me y = true := gv_me_all y (by
  have e : List.range gm_CI.length = ([0, 1, 2, 3, 4, 5, 6, 7, 8, 9, 10, 11, 12, 13, 14, 15, 16, 17, 18, 19, 20, 21, 22, 23, 24, 25, 26, 27, 28, 29, 30, 31, 32, 33, 34, 35, 36, 37, 38, 39, 40, 41, 42, 43, 44, 45, 46, 47, 48, 49, 50, 51, 52, 53, 54, 55, 56, 57, 58, 59, 60, 61, 62, 63, 64, 65, 66, 67, 68, 69, 70, 71, 72, 73, 74, 75, 76, 77, 78, 79, 80, 81, 82, 83, 84, 85, 86, 87, 88, 89, 90, 91, 92, 93, 94, 95, 96, 97, 98, 99, 100, 101, 102, 103, 104, 105, 106, 107, 108, 109, 110, 111, 112, 113, 114, 115, 116, 117, 118, 119, 120, 121, 122, 123, 124, 125, 126, 127, 128, 129, 130, 131, 132, 133, 134, 135, 136, 137, 138, 139, 140, 141, 142, 143, 144, 145, 146, 147, 148, 149, 150, 151, 152, 153, 154, 155, 156, 157, 158, 159, 160, 161, 162, 163, 164, 165] : List Nat) := by decide +kernel
  rw [← e]; exact List.mem_range.mpr h)
end
section
theorem g_cats (ρ : Nat → Nat) (l : List Value) : ((l.map (g_tr ρ)).map fun v => v.category).sum = (l.map fun v => v.category).sum := by
  rw [List.map_map]
  congr 1
  exact List.map_congr_left fun v _ => g_tr_cat ρ v
def g_TY (cA : Nat → ClassId) (tys : List (ClassId × FieldType)) (M : gM) : Prop := ∀ (k t : Nat) (x : Nat × ((Nat → Int32) ⊕ (Nat → Int64) ⊕ (Nat → Option Nat))), k < M.1 → M.2 k = some (.inr (t, x)) → ∃ (t0 : Nat) (ty : FieldType), g_tys[t]? = some ty ∧ tys[t0]? = some (cA t, ty)
/-- the world as a frame sees it: the start's state s, the heap H now -/
def g_RH (D : va_G) (cA : Nat → ClassId) (A : Nat → Prop) (b : Nat × Nat) (s : State) (ρ : Nat → Nat) (M : gM) (H : Heap) (locs : List Loc) : Prop :=
  va_P D vwCl (g_wd cA ρ M) H ∧ va_D A (g_wd cA ρ M) ∧ va_S A s.heap H locs ∧ (∃ tys, va_K D vwCl tys s ∧ g_TY cA tys M) ∧ g_WF M ∧ (ρ 0, ρ 1) = b ∧ 1 < M.1
/-- what lies outside the world -/
def g_EX (A : Nat → Prop) (b : Nat × Nat) (L : Nat) (xs : Nat → Int32) (U : State) : Prop :=
  (∀ w ∈ lw_tbl, g_gw w = true → va_Nw w U) ∧ (va_X b.1 L xs U U.heap ∧ b.1 < U.heap.size ∧ ¬ A b.1) ∧ vx_Zq Bundle.tN "UNASSIGNED_STACK" Bundle.steD A U U.heap ∧ vx_Zq Bundle.tN "SUPPRESSED_SENTINEL" Bundle.listD A U U.heap ∧
  (∀ (y pc : Nat) (v : String × Nat × Nat × Nat × String × Bool), (gm_T.getD y []).lookup pc = some v → ∃ sa, vk_R (gOwn y) v.2.2.1 v.2.2.2.2.1 sa U) ∧ (∀ (t : Nat) (C : String), g_tys[t]? = some (.object C) → va_AO C U) ∧ (∀ q ∈ g_nc, va_Nc q.1 q.2 U) ∧ va_Z gn_AL gn_ED gn_dO (.ref b.2) A U U.heap ∧ va_T (.object "java/lang/Object") b.2 0 (fun _ => .null) A U U.heap ∧ ∀ q ∈ g_ifs, va_Fw (g_cl q.1).1 q.2.2.1 (gN q.2.1) U
def g_FX (p : Program) (l : Launch) (R : Room) (s : State) (m : MethodId) (meth : Method) (cc : Code) (D : va_G) (cA : Nat → ClassId) (A : Nat → Prop) (b : Nat × Nat) (L : Nat) (xs : Nat → Int32) (y : Nat) : Prop :=
  p.tables.exec = Jvm.exec ∧ cc.code = gC y ∧ cc.maxLocals = gLo y ∧ meth.sig.returnType = gR y ∧ meth.locks = false ∧ ((gN y).name = "<init>" → meth.name = "<init>") ∧ s.vm.findClass (gOwn y) = some m.cls ∧ gF y ≤ R.frames ∧ gW y ≤ R.locals ∧ (∀ q, s.heap.size ≤ q → A q) ∧ (y ≠ g_ylaw → cc.exceptionTable.toList = tableOf (gH y)) ∧ l.stackTraces = false ∧ g_EX A b L xs s ∧ (∀ (t : Nat) (ty : FieldType) (c0 : ClassId), g_tys[t]? = some ty → va_RA s c0 ty → c0 = cA t)
theorem g_b2 {n : Nat} {ρ ρ1 : Nat → Nat} (h : g_ag n ρ ρ1) (hn : 1 < n) : (ρ1 0, ρ1 1) = (ρ 0, ρ 1) := by
  rw [h 0 (Nat.lt_trans Nat.zero_lt_one hn), h 1 hn]
theorem g_rd_i {M : gM} {a : Nat} {e : gE} (h : g_rd M a = some e) : a < M.1 ∧ M.2 a = some e := by
  unfold g_rd at h
  split at h
  · next q => exact ⟨q, h⟩
  · cases h
theorem g_ix_i {i : Int32} {n : Nat} (h : g_ix i n = true) : vp_in i n := by
  intro hq
  simp only [g_ix, Bool.not_eq_true', Bool.or_eq_false_iff, decide_eq_false_iff_not] at h
  exact hq.elim h.1 h.2
theorem g_TY_up {cA : Nat → ClassId} {tys : List (ClassId × FieldType)} {M : gM} (h : g_TY cA tys M) {a : Nat} {e : gE} (he : ∀ (t : Nat) (x : Nat × ((Nat → Int32) ⊕ (Nat → Int64) ⊕ (Nat → Option Nat))), e = .inr (t, x) → ∃ (t0 : Nat) (ty : FieldType), g_tys[t]? = some ty ∧ tys[t0]? = some (cA t, ty)) : g_TY cA tys (M.1, va_up M.2 a (some e)) := fun k t x hk hx => by
  by_cases hka : k = a
  · subst hka
    have h1 : va_up M.2 k (some e) k = some e := by unfold va_up; rw [if_pos rfl]
    exact he t x (Option.some.inj (h1.symm.trans hx))
  · have h1 : va_up M.2 a (some e) k = M.2 k := by unfold va_up; rw [if_neg hka]
    exact h k t x hk (h1.symm.trans hx)
theorem g_TY_new {cA : Nat → ClassId} {tys more : List (ClassId × FieldType)} {M : gM} (h : g_TY cA tys M) {e : Option gE} (he : ∀ (t : Nat) (x : Nat × ((Nat → Int32) ⊕ (Nat → Int64) ⊕ (Nat → Option Nat))), e = some (.inr (t, x)) → ∃ (t0 : Nat) (ty : FieldType), g_tys[t]? = some ty ∧ (tys ++ more)[t0]? = some (cA t, ty)) : g_TY cA (tys ++ more) (M.1 + 1, va_up M.2 M.1 e) := fun k t x hk hx => by
  by_cases hka : k = M.1
  · subst hka
    have h1 : va_up M.2 M.1 e M.1 = e := by unfold va_up; rw [if_pos rfl]
    exact he t x (h1.symm.trans hx)
  · have h1 : va_up M.2 M.1 e k = M.2 k := by unfold va_up; rw [if_neg hka]
    obtain ⟨t0, ty, h2, h3⟩ := h k t x (Nat.lt_of_le_of_ne (Nat.lt_succ_iff.mp hk) hka) (h1.symm.trans hx)
    exact ⟨t0, ty, h2, by rw [List.getElem?_append_left (List.getElem?_eq_some_iff.mp h3).1]; exact h3⟩
theorem g_df_tr (ρ : Nat → Nat) (ci : Nat) : (g_df ci).map (g_tr ρ) = g_df ci := by
  simp only [g_df, List.map_map]
  refine List.map_congr_left fun k _ => ?_
  show g_tr ρ (defaultValue (g_ft ci k)) = defaultValue (g_ft ci k)
  cases g_ft ci k <;> rfl
theorem g_df_ok (n ci : Nat) : ∀ v ∈ g_df ci, g_ok n v = true := fun v hv => by
  obtain ⟨k, -, rfl⟩ := List.mem_map.mp hv
  cases g_ft ci k <;> rfl
theorem g_df_at (ci : Nat) : ∀ j, j < (g_cl ci).2.2 → defaultValue (g_ft ci j) = vp_V (g_df ci) j := fun j hj => by
  simp only [vp_V, g_df, List.getD_eq_getElem?_getD, List.getElem?_map, List.getElem?_range hj, Option.map_some, Option.getD_some]
theorem g_rf_tr (ρ : Nat → Nat) (r : Option Nat) : va_rf (r.map ρ) = g_tr ρ (va_rf r) := by cases r <;> rfl
theorem g_same_f {s : State} {args : Array Value} (hts : ∀ w ∈ lw_tbl, g_gw w = true → va_Nw w s) {ref C n d : String} (h : ref = C ∨ ∃ j2 : Nat, lw_tbl[j2]? = some (.sameField ref C n d) ∧ g_gw (.sameField ref C n d) = true) : ∀ x, s.fieldFound? C n d = some x → s.fieldFound? ref n d = some x := by
  rcases h with rfl | ⟨j2, h⟩
  · exact fun _ h => h
  · exact fun x hx => u_same (args := args) (g_w hts h) x hx
section GS
variable {p : Program} {l : Launch} {e : Env} {R : Room} {s : State} {m : MethodId} {args : Array Value} {below : List Frame} {meth : Method} {cc : Code} {Q : State → Prop}
variable {D : va_G} {cA : Nat → ClassId} {A : Nat → Prop} {b : Nat × Nat} {L : Nat} {xs : Nat → Int32} {y : Nat}
/-- from there on -/
def g_Ko (p : Program) (l : Launch) (e : Env) (R : Room) (s : State) (m : MethodId) (args : Array Value) (below : List Frame) (meth : Method) (cc : Code) (Q : State → Prop) (D : va_G) (cA : Nat → ClassId) (A : Nat → Prop) (b : Nat × Nat) (y n0 : Nat) (ρ : Nat → Nat) (q : gCf) : Prop :=
  ∀ (ρ1 : Nat → Nat) (H1 : Heap) (locs1 : List Loc) (ls1 : Array Slot), g_ag n0 ρ ρ1 → g_RH D cA A b s ρ1 q.2.2.2.1 H1 locs1 → lv_has ls1 (gLo y) (g_trL ρ1 q.2.1) → W p l e R s m args below meth cc H1 locs1 q.2.2.2.2.1 q.2.2.2.2.2 Q (F0 m q.1 ls1 (q.2.2.1.map (g_tr ρ1)))
def g_So (p : Program) (l : Launch) (e : Env) (R : Room) (s : State) (m : MethodId) (args : Array Value) (below : List Frame) (meth : Method) (cc : Code) (Q : State → Prop) (D : va_G) (cA : Nat → ClassId) (A : Nat → Prop) (b : Nat × Nat) (y : Nat) (ρ : Nat → Nat) (H : Heap) (locs : List Loc) (ls : Array Slot) (q r : gCf) : Prop :=
  q.2.2.2.1.1 ≤ r.2.2.2.1.1 ∧ q.2.2.2.2.1 ≤ r.2.2.2.2.1 ∧ q.2.2.2.2.2 ≤ r.2.2.2.2.2 ∧ (r.2.2.2.2.1 ≤ R.cells → r.2.2.2.2.2 ≤ R.slots → g_Ko p l e R s m args below meth cc Q D cA A b y q.2.2.2.1.1 ρ r → g_RH D cA A b s ρ q.2.2.2.1 H locs → lv_has ls (gLo y) (g_trL ρ q.2.1) → W p l e R s m args below meth cc H locs q.2.2.2.2.1 q.2.2.2.2.2 Q (F0 m q.1 ls (q.2.2.1.map (g_tr ρ))))
theorem g_same {ρ : Nat → Nat} {H : Heap} {locs : List Loc} {ls : Array Slot} {pc pc1 : Nat} {lv : gL} {st st1 : List Value} {M : gM} {c d : Nat}
    (h : (g_RH D cA A b s ρ M H locs → lv_has ls (gLo y) (g_trL ρ lv) → W p l e R s m args below meth cc H locs c d Q (F0 m pc1 ls (st1.map (g_tr ρ)))) → g_RH D cA A b s ρ M H locs → lv_has ls (gLo y) (g_trL ρ lv) → W p l e R s m args below meth cc H locs c d Q (F0 m pc ls (st.map (g_tr ρ)))) :
    g_So p l e R s m args below meth cc Q D cA A b y ρ H locs ls (pc, lv, st, M, c, d) (pc1, lv, st1, M, c, d) :=
  ⟨Nat.le_refl _, Nat.le_refl _, Nat.le_refl _, fun _ _ K hR hl => h (fun hR hl => K ρ H locs ls g_ag.rf hR hl) hR hl⟩
theorem g_keep {ρ : Nat → Nat} {H : Heap} {locs : List Loc} {ls : Array Slot} {pc pc1 : Nat} {lv lv1 : gL} {st st1 : List Value} {M : gM} {c d : Nat}
    (h : (∀ ls1 : Array Slot, g_RH D cA A b s ρ M H locs → lv_has ls1 (gLo y) (g_trL ρ lv1) → W p l e R s m args below meth cc H locs c d Q (F0 m pc1 ls1 (st1.map (g_tr ρ)))) → g_RH D cA A b s ρ M H locs → lv_has ls (gLo y) (g_trL ρ lv) → W p l e R s m args below meth cc H locs c d Q (F0 m pc ls (st.map (g_tr ρ)))) :
    g_So p l e R s m args below meth cc Q D cA A b y ρ H locs ls (pc, lv, st, M, c, d) (pc1, lv1, st1, M, c, d) :=
  ⟨Nat.le_refl _, Nat.le_refl _, Nat.le_refl _, fun _ _ K hR hl => h (fun ls1 hR hl => K ρ H locs ls1 g_ag.rf hR hl) hR hl⟩
theorem g_sameC {ρ : Nat → Nat} {H : Heap} {locs : List Loc} {ls : Array Slot} {pc pc1 : Nat} {lv : gL} {st st1 : List Value} {M : gM} {c d : Nat}
    (h : c ≤ R.cells → d ≤ R.slots → (g_RH D cA A b s ρ M H locs → lv_has ls (gLo y) (g_trL ρ lv) → W p l e R s m args below meth cc H locs c d Q (F0 m pc1 ls (st1.map (g_tr ρ)))) → g_RH D cA A b s ρ M H locs → lv_has ls (gLo y) (g_trL ρ lv) → W p l e R s m args below meth cc H locs c d Q (F0 m pc ls (st.map (g_tr ρ)))) :
    g_So p l e R s m args below meth cc Q D cA A b y ρ H locs ls (pc, lv, st, M, c, d) (pc1, lv, st1, M, c, d) :=
  ⟨Nat.le_refl _, Nat.le_refl _, Nat.le_refl _, fun hc hd K hR hl => h hc hd (fun hR hl => K ρ H locs ls g_ag.rf hR hl) hR hl⟩
/-- a write to a cell -/
theorem g_write {ρ : Nat → Nat} {H : Heap} {locs : List Loc} {ls : Array Slot} {pc pc1 : Nat} {lv : gL} {st st1 : List Value} {M : gM} {a c d : Nat} {e1 : gE}
    (hok : g_WF M → g_okE M.1 e1) (hty : ∀ tys, g_TY cA tys M → ∀ (t : Nat) (x : Nat × ((Nat → Int32) ⊕ (Nat → Int64) ⊕ (Nat → Option Nat))), e1 = .inr (t, x) → ∃ (t0 : Nat) (ty : FieldType), g_tys[t]? = some ty ∧ tys[t0]? = some (cA t, ty))
    (h : (∀ (H1 : Heap) (locs1 : List Loc), va_P D vwCl (g_wd cA ρ (M.1, va_up M.2 a (some e1))) H1 → va_D A (g_wd cA ρ (M.1, va_up M.2 a (some e1))) → va_S A s.heap H1 locs1 → W p l e R s m args below meth cc H1 locs1 c d Q (F0 m pc1 ls (st1.map (g_tr ρ)))) → g_RH D cA A b s ρ M H locs → lv_has ls (gLo y) (g_trL ρ lv) → W p l e R s m args below meth cc H locs c d Q (F0 m pc ls (st.map (g_tr ρ)))) :
    g_So p l e R s m args below meth cc Q D cA A b y ρ H locs ls (pc, lv, st, M, c, d) (pc1, lv, st1, (M.1, va_up M.2 a (some e1)), c, d) :=
  ⟨Nat.le_refl _, Nat.le_refl _, Nat.le_refl _, fun _ _ K hR hl => h (fun H1 locs1 hP1 hD1 hS1 => by
    obtain ⟨-, -, -, ⟨tys, hKt, hT⟩, hWF, h0, h1⟩ := id hR
    exact K ρ H1 locs1 ls g_ag.rf ⟨hP1, hD1, hS1, ⟨tys, hKt, g_TY_up hT (hty tys hT)⟩, g_WF_up hWF (hok hWF), h0, h1⟩ hl) hR hl⟩
/-- a new cell -/
theorem g_make {ρ : Nat → Nat} {H : Heap} {locs : List Loc} {ls : Array Slot} {pc pc1 : Nat} {lv : gL} {st st1 : List Value} {M : gM} {c d c1 d1 : Nat} {e1 : gE} (hc : c ≤ c1) (hd : d ≤ d1)
    (hlv : lv.all (fun q => g_ok M.1 q.2) = true) (hst : st1.all (g_ok M.1) = true) (hok : g_okE M.1 e1)
    (h : c1 ≤ R.cells → d1 ≤ R.slots → (∀ (q : Nat) (H1 : Heap) (tys more : List (ClassId × FieldType)), va_K D vwCl tys s → g_TY cA tys M → va_K D vwCl (tys ++ more) s → (∀ (t : Nat) (x : Nat × ((Nat → Int32) ⊕ (Nat → Int64) ⊕ (Nat → Option Nat))), e1 = .inr (t, x) → ∃ (t0 : Nat) (ty : FieldType), g_tys[t]? = some ty ∧ (tys ++ more)[t0]? = some (cA t, ty)) → va_P D vwCl (g_wd cA ρ M ++ [(q, g_trE cA ρ e1)]) H1 → va_D A (g_wd cA ρ M ++ [(q, g_trE cA ρ e1)]) → va_S A s.heap H1 locs → W p l e R s m args below meth cc H1 locs c1 d1 Q (F0 m pc1 ls (.ref q :: st1.map (g_tr ρ)))) → g_RH D cA A b s ρ M H locs → lv_has ls (gLo y) (g_trL ρ lv) → W p l e R s m args below meth cc H locs c d Q (F0 m pc ls (st.map (g_tr ρ)))) :
    g_So p l e R s m args below meth cc Q D cA A b y ρ H locs ls (pc, lv, st, M, c, d) (pc1, lv, .ref M.1 :: st1, (M.1 + 1, va_up M.2 M.1 (some e1)), c1, d1) :=
  ⟨Nat.le_succ _, hc, hd, fun hc9 hd9 K hR hl => h hc9 hd9 (fun q H1 tys more hK0 hT0 hK1 hty hP1 hD1 hS1 => by
    obtain ⟨-, -, -, -, hWF, h0, h1⟩ := id hR
    have e9 : g_wd cA (va_up ρ M.1 q) (M.1 + 1, va_up M.2 M.1 (some e1)) = g_wd cA ρ M ++ [(q, g_trE cA ρ e1)] := g_push hWF q e1 hok
    have k9 := K (va_up ρ M.1 q) H1 locs ls g_ag.up ⟨by rw [e9]; exact hP1, by rw [e9]; exact hD1, hS1, ⟨tys ++ more, hK1, g_TY_new hT0 (fun t x hx => hty t x (Option.some.inj hx))⟩, g_WF_new hWF (fun e' he' => by cases he'; exact g_okE_mono (Nat.le_succ _) hok), by rw [← h0]; exact g_b2 g_ag.up h1, Nat.lt_succ_of_lt h1⟩ (by rw [g_trL_ag g_ag.up hlv]; exact hl)
    have e8 : ((.ref M.1 :: st1 : List Value)).map (g_tr (va_up ρ M.1 q)) = .ref q :: st1.map (g_tr ρ) := by
      rw [List.map_cons, g_trs_ag g_ag.up hst]
      show Value.ref (va_up ρ M.1 q M.1) :: _ = _
      unfold va_up; rw [if_pos rfl]
    dsimp only at k9
    rw [e8] at k9
    exact k9) hR hl⟩
set_option maxHeartbeats 4000000 in
set_option maxRecDepth 20000 in
theorem g_stp_ok (F : g_FX p l R s m meth cc D cA A b L xs y) {i : Instr} {n pc : Nat} {lv : gL} {st : List Value} {M : gM} {c d : Nat} {r : gCf} {ρ : Nat → Nat} {H : Heap} {locs : List Loc} {ls : Array Slot} (hI : gI y pc = some (i, n)) (h : g_stp xs L y i pc lv st M c d = some r) :
    g_So p l e R s m args below meth cc Q D cA A b y ρ H locs ls (pc, lv, st, M, c, d) r := by
  obtain ⟨hx, hb, hml, hr, hlocks, hnm, hown, hfr, hlo, hA, htab, hst, ⟨hts, ⟨hX, hbl, hbA⟩, hZ1, hZ2, hstr, hAO, hNc, hZ3, hT3, hFw⟩, hcA⟩ := F
  obtain ⟨hdn, hd⟩ := gI_ok hI
  cases i with
  | iconst v =>
    simp only [g_stp] at h
    cases h; exact g_same (fun K hR hl => lv_iconst hx hb (hd (Nat.succ_ne_zero _)) rfl (K hR hl))
  | lconst v =>
    simp only [g_stp] at h
    cases h; exact g_same (fun K hR hl => lv_lconst hx hb (hd (Nat.succ_ne_zero _)) rfl (K hR hl))
  | bipush v =>
    simp only [g_stp] at h
    cases h; exact g_same (fun K hR hl => lv_bipush hx hb (hd (Nat.succ_ne_zero _)) rfl (K hR hl))
  | sipush v =>
    simp only [g_stp] at h
    cases h; exact g_same (fun K hR hl => lv_sipush hx hb (hd (Nat.succ_ne_zero _)) rfl (K hR hl))
  | aconst_null =>
    simp only [g_stp] at h
    cases h; exact g_same (fun K hR hl => lv_null hx hb (hd (Nat.succ_ne_zero _))  (K hR hl))
  | iadd =>
    simp only [g_stp] at h
    obtain ⟨x2, x1, t, e0, h9⟩ := g_pII_i h
    subst e0
    replace h := h9
    cases h; exact g_same (fun K hR hl => lv_iadd hx hb (hd (Nat.succ_ne_zero _))  (K hR hl))
  | isub =>
    simp only [g_stp] at h
    obtain ⟨x2, x1, t, e0, h9⟩ := g_pII_i h
    subst e0
    replace h := h9
    cases h; exact g_same (fun K hR hl => lv_isub hx hb (hd (Nat.succ_ne_zero _))  (K hR hl))
  | imul =>
    simp only [g_stp] at h
    obtain ⟨x2, x1, t, e0, h9⟩ := g_pII_i h
    subst e0
    replace h := h9
    cases h; exact g_same (fun K hR hl => lv_imul hx hb (hd (Nat.succ_ne_zero _))  (K hR hl))
  | iand =>
    simp only [g_stp] at h
    obtain ⟨x2, x1, t, e0, h9⟩ := g_pII_i h
    subst e0
    replace h := h9
    cases h; exact g_same (fun K hR hl => lv_iand hx hb (hd (Nat.succ_ne_zero _))  (K hR hl))
  | ior =>
    simp only [g_stp] at h
    obtain ⟨x2, x1, t, e0, h9⟩ := g_pII_i h
    subst e0
    replace h := h9
    cases h; exact g_same (fun K hR hl => lv_ior hx hb (hd (Nat.succ_ne_zero _))  (K hR hl))
  | ishl =>
    simp only [g_stp] at h
    obtain ⟨x2, x1, t, e0, h9⟩ := g_pII_i h
    subst e0
    replace h := h9
    cases h; exact g_same (fun K hR hl => lv_ishl hx hb (hd (Nat.succ_ne_zero _))  (K hR hl))
  | ishr =>
    simp only [g_stp] at h
    obtain ⟨x2, x1, t, e0, h9⟩ := g_pII_i h
    subst e0
    replace h := h9
    cases h; exact g_same (fun K hR hl => lv_ishr hx hb (hd (Nat.succ_ne_zero _))  (K hR hl))
  | iushr =>
    simp only [g_stp] at h
    obtain ⟨x2, x1, t, e0, h9⟩ := g_pII_i h
    subst e0
    replace h := h9
    cases h; exact g_same (fun K hR hl => lv_iushr hx hb (hd (Nat.succ_ne_zero _)) rfl (K hR hl))
  | idiv =>
    simp only [g_stp] at h
    obtain ⟨x2, x1, t, e0, h9⟩ := g_pII_i h
    subst e0
    replace h := h9
    split at h
    · next hc => cases h; exact g_same (fun K hR hl => lv_idiv hx hb (hd (Nat.succ_ne_zero _)) hc (K hR hl))
    · cases h
  | irem =>
    simp only [g_stp] at h
    obtain ⟨x2, x1, t, e0, h9⟩ := g_pII_i h
    subst e0
    replace h := h9
    split at h
    · next hc => cases h; exact g_same (fun K hR hl => lv_irem hx hb (hd (Nat.succ_ne_zero _)) hc (K hR hl))
    · cases h
  | ineg =>
    simp only [g_stp] at h
    obtain ⟨x, t, e0, h9⟩ := g_pI_i h
    subst e0
    replace h := h9
    cases h; exact g_same (fun K hR hl => lv_ineg hx hb (hd (Nat.succ_ne_zero _))  (K hR hl))
  | ladd =>
    simp only [g_stp] at h
    obtain ⟨x2, x1, t, e0, h9⟩ := g_pLL_i h
    subst e0
    replace h := h9
    cases h; exact g_same (fun K hR hl => lv_ladd hx hb (hd (Nat.succ_ne_zero _))  (K hR hl))
  | lmul =>
    simp only [g_stp] at h
    obtain ⟨x2, x1, t, e0, h9⟩ := g_pLL_i h
    subst e0
    replace h := h9
    cases h; exact g_same (fun K hR hl => lv_lmul hx hb (hd (Nat.succ_ne_zero _))  (K hR hl))
  | i2l =>
    simp only [g_stp] at h
    obtain ⟨x, t, e0, h9⟩ := g_pI_i h
    subst e0
    replace h := h9
    cases h; exact g_same (fun K hR hl => lv_i2l hx hb (hd (Nat.succ_ne_zero _)) rfl (K hR hl))
  | i2d =>
    simp only [g_stp] at h
    obtain ⟨x, t, e0, h9⟩ := g_pI_i h
    subst e0
    replace h := h9
    cases h; exact g_same (fun K hR hl => lv_i2d hx hb (hd (Nat.succ_ne_zero _))  (K hR hl))
  | lcmp =>
    simp only [g_stp] at h
    obtain ⟨x2, x1, t, e0, h9⟩ := g_pLL_i h
    subst e0
    replace h := h9
    cases h; exact g_same (fun K hR hl => W.lcmp hx hb (hd (Nat.succ_ne_zero _))  (K hR hl))
  | dcmp op =>
    simp only [g_stp] at h
    obtain ⟨x2, x1, t, e0, h9⟩ := g_pDD_i h
    subst e0
    replace h := h9
    cases h; exact g_same (fun K hR hl => lv_dcmp hx hb (hd (Nat.succ_ne_zero _))  (K hR hl))
  | ddiv =>
    simp only [g_stp] at h
    obtain ⟨x2, x1, t, e0, h9⟩ := g_pDD_i h
    subst e0
    replace h := h9
    split at h
    · next hc => cases h; exact g_same (fun K hR hl => lv_ddiv hx hb (hd (Nat.succ_ne_zero _)) hc (K hR hl))
    · cases h
  | dmul =>
    simp only [g_stp] at h
    obtain ⟨x2, x1, t, e0, h9⟩ := g_pDD_i h
    subst e0
    replace h := h9
    split at h
    · next hc => cases h; exact g_same (fun K hR hl => lv_dmul hx hb (hd (Nat.succ_ne_zero _)) hc (K hR hl))
    · cases h
  | dsub =>
    simp only [g_stp] at h
    obtain ⟨x2, x1, t, e0, h9⟩ := g_pDD_i h
    subst e0
    replace h := h9
    split at h
    · next hc => cases h; exact g_same (fun K hR hl => lv_dsub hx hb (hd (Nat.succ_ne_zero _)) hc (K hR hl))
    · cases h
  | dconst v =>
    simp only [g_stp] at h
    split at h
    · next hc => subst hc; cases h; exact g_same (fun K hR hl => lv_dconst0 hx hb (hd (Nat.succ_ne_zero _)) (K hR hl))
    · cases h
  | dup =>
    simp only [g_stp] at h
    obtain ⟨v, t, e0, h9⟩ := g_pV_i h
    subst e0
    replace h := h9
    split at h
    · next hc => cases h; exact g_same (fun K hR hl => lv_dup hx hb (hd (Nat.succ_ne_zero _)) ((g_tr_cat ρ v).trans hc) (K hR hl))
    · cases h
  | pop =>
    simp only [g_stp] at h
    obtain ⟨v, t, e0, h9⟩ := g_pV_i h
    subst e0
    replace h := h9
    split at h
    · next hc => cases h; exact g_same (fun K hR hl => lv_pop hx hb (hd (Nat.succ_ne_zero _)) ((g_tr_cat ρ v).trans hc) (K hR hl))
    · cases h
  | dup_x1 =>
    simp only [g_stp] at h
    obtain ⟨v2, v1, t, e0, h9⟩ := g_pVV_i h
    subst e0
    replace h := h9
    split at h
    · next hc => cases h; exact g_same (fun K hR hl => lv_dup_x1 hx hb (hd (Nat.succ_ne_zero _)) ((g_tr_cat ρ v2).trans hc.1) ((g_tr_cat ρ v1).trans hc.2) (K hR hl))
    · cases h
  | dup2 =>
    simp only [g_stp] at h
    obtain ⟨v2, v1, t, e0, h9⟩ := g_pVV_i h
    subst e0
    replace h := h9
    split at h
    · next hc => cases h; exact g_same (fun K hR hl => lv_dup2_11 hx hb (hd (Nat.succ_ne_zero _)) ((g_tr_cat ρ v2).trans hc.1) ((g_tr_cat ρ v1).trans hc.2) (K hR hl))
    · cases h
  | iload i =>
    simp only [g_stp] at h
    split at h
    · next x he => cases h; exact g_same (fun K hR hl => lv_iload hx hb (hd (Nat.succ_ne_zero _)) (g_ld hl he) (K hR hl))
    · cases h
  | iload_n i =>
    simp only [g_stp] at h
    split at h
    · next x he => cases h; exact g_same (fun K hR hl => lv_iload_n hx hb (hd (Nat.succ_ne_zero _)) rfl (g_ld hl he) (K hR hl))
    · cases h
  | lload i =>
    simp only [g_stp] at h
    split at h
    · next x he => cases h; exact g_same (fun K hR hl => lv_lload hx hb (hd (Nat.succ_ne_zero _)) (g_ld hl he) (K hR hl))
    · cases h
  | lload_n i =>
    simp only [g_stp] at h
    split at h
    · next x he => cases h; exact g_same (fun K hR hl => lv_lload_n hx hb (hd (Nat.succ_ne_zero _)) rfl (g_ld hl he) (K hR hl))
    · cases h
  | dload i =>
    simp only [g_stp] at h
    split at h
    · next x he => cases h; exact g_same (fun K hR hl => lv_dload hx hb (hd (Nat.succ_ne_zero _)) (g_ld hl he) (K hR hl))
    · cases h
  | dload_n i =>
    simp only [g_stp] at h
    split at h
    · next x he => cases h; exact g_same (fun K hR hl => lv_dload_n hx hb (hd (Nat.succ_ne_zero _)) rfl (g_ld hl he) (K hR hl))
    · cases h
  | aload i =>
    simp only [g_stp] at h
    split at h
    · next x he => cases h; exact g_same (fun K hR hl => lv_aload hx hb (hd (Nat.succ_ne_zero _)) (g_ld hl he) (K hR hl))
    · cases h
  | aload_n i =>
    simp only [g_stp] at h
    split at h
    · next x he => cases h; exact g_same (fun K hR hl => lv_aload_n hx hb (hd (Nat.succ_ne_zero _)) rfl (g_ld hl he) (K hR hl))
    · cases h
  | istore i =>
    simp only [g_stp] at h
    obtain ⟨x, t, e0, h9⟩ := g_pI_i h
    subst e0
    replace h := h9
    split at h
    · next hc => cases h; exact g_keep (fun K hR hl => lv_istore hx hb (hd (Nat.succ_ne_zero _)) hl hc (g_st1_tr ρ lv i (.int x)) (fun ls1 hl1 => K ls1 hR hl1))
    · cases h
  | istore_n i =>
    simp only [g_stp] at h
    obtain ⟨x, t, e0, h9⟩ := g_pI_i h
    subst e0
    replace h := h9
    split at h
    · next hc => cases h; exact g_keep (fun K hR hl => lv_istore_n hx hb (hd (Nat.succ_ne_zero _)) rfl hl hc (g_st1_tr ρ lv (i : Nat) (.int x)) (fun ls1 hl1 => K ls1 hR hl1))
    · cases h
  | lstore i =>
    simp only [g_stp] at h
    obtain ⟨x, t, e0, h9⟩ := g_pL_i h
    subst e0
    replace h := h9
    split at h
    · next hc => cases h; exact g_keep (fun K hR hl => lv_lstore hx hb (hd (Nat.succ_ne_zero _)) hl hc (g_st2_tr ρ lv i (.long x)) (fun ls1 hl1 => K ls1 hR hl1))
    · cases h
  | lstore_n i =>
    simp only [g_stp] at h
    obtain ⟨x, t, e0, h9⟩ := g_pL_i h
    subst e0
    replace h := h9
    split at h
    · next hc => cases h; exact g_keep (fun K hR hl => lv_lstore_n hx hb (hd (Nat.succ_ne_zero _)) rfl hl hc (g_st2_tr ρ lv (i : Nat) (.long x)) (fun ls1 hl1 => K ls1 hR hl1))
    · cases h
  | dstore i =>
    simp only [g_stp] at h
    obtain ⟨x, t, e0, h9⟩ := g_pD_i h
    subst e0
    replace h := h9
    split at h
    · next hc => cases h; exact g_keep (fun K hR hl => lv_dstore hx hb (hd (Nat.succ_ne_zero _)) hl hc (g_st2_tr ρ lv i (.double x)) (fun ls1 hl1 => K ls1 hR hl1))
    · cases h
  | dstore_n i =>
    simp only [g_stp] at h
    obtain ⟨x, t, e0, h9⟩ := g_pD_i h
    subst e0
    replace h := h9
    split at h
    · next hc => cases h; exact g_keep (fun K hR hl => lv_dstore_n hx hb (hd (Nat.succ_ne_zero _)) rfl hl hc (g_st2_tr ρ lv (i : Nat) (.double x)) (fun ls1 hl1 => K ls1 hR hl1))
    · cases h
  | astore i =>
    simp only [g_stp] at h
    obtain ⟨a, t, e0, h9⟩ := g_pR_i h
    subst e0
    replace h := h9
    split at h
    · next hc => cases h; exact g_keep (fun K hR hl => lv_astore hx hb (hd (Nat.succ_ne_zero _)) hl hc (g_st1_tr ρ lv i (.ref a)) (fun ls1 hl1 => K ls1 hR hl1))
    · cases h
  | astore_n i =>
    simp only [g_stp] at h
    obtain ⟨a, t, e0, h9⟩ := g_pR_i h
    subst e0
    replace h := h9
    split at h
    · next hc => cases h; exact g_keep (fun K hR hl => lv_astore_n hx hb (hd (Nat.succ_ne_zero _)) rfl hl hc (g_st1_tr ρ lv (i : Nat) (.ref a)) (fun ls1 hl1 => K ls1 hR hl1))
    · cases h
  | iinc i v =>
    simp only [g_stp] at h
    split at h
    · next x he =>
      split at h
      · next hc =>
        cases h
        refine g_keep (fun K hR hl => ?_)
        obtain ⟨k, hk⟩ := List.getElem?_of_mem (List.mem_map.mpr ⟨(i, .int x), g_lookup_mem he, rfl⟩ : (i, Value.int x) ∈ g_trL ρ lv)
        exact lv_iinc hx hb (hd (Nat.succ_ne_zero _)) hl hk rfl hc (g_st1_tr ρ lv i (.int (x + Int32.ofInt v))) (fun ls1 hl1 => K ls1 hR hl1)
      · cases h
    · cases h
  | ifCond cd off =>
    simp only [g_stp] at h
    obtain ⟨tg, ht, h⟩ := Option.bind_eq_some_iff.mp h
    have ht := g_tg_i ht
    obtain ⟨x, t, e0, h9⟩ := g_pI_i h
    subst e0
    replace h := h9
    cases h
    refine g_same (fun K hR hl => ?_)
    have k9 := K hR hl
    cases cd with
    | eq => exact lv_if_eq hx hb (hd (Nat.succ_ne_zero _)) ht (fun hq => by rw [if_pos (show g_c1 .eq x = true from decide_eq_true (by assumption))] at k9; exact k9) (fun hq => by rw [if_neg (show ¬ g_c1 .eq x = true from by simpa [g_c1, g_c2] using hq)] at k9; exact k9)
    | ne => exact lv_if_ne hx hb (hd (Nat.succ_ne_zero _)) ht (fun hq => by rw [if_pos (show g_c1 .ne x = true from decide_eq_true (by assumption))] at k9; exact k9) (fun hq => by rw [if_neg (show ¬ g_c1 .ne x = true from by simpa [g_c1, g_c2] using hq)] at k9; exact k9)
    | lt => exact lv_if_lt hx hb (hd (Nat.succ_ne_zero _)) ht (fun hq => by rw [if_pos (show g_c1 .lt x = true from decide_eq_true (by assumption))] at k9; exact k9) (fun hq => by rw [if_neg (show ¬ g_c1 .lt x = true from by simpa [g_c1, g_c2] using hq)] at k9; exact k9)
    | ge => exact lv_if_ge hx hb (hd (Nat.succ_ne_zero _)) ht (fun hq => by rw [if_pos (show g_c1 .ge x = true from decide_eq_true (by assumption))] at k9; exact k9) (fun hq => by rw [if_neg (show ¬ g_c1 .ge x = true from by simpa [g_c1, g_c2] using hq)] at k9; exact k9)
    | gt => exact lv_if_gt hx hb (hd (Nat.succ_ne_zero _)) ht (fun hq => by rw [if_pos (show g_c1 .gt x = true from decide_eq_true (by assumption))] at k9; exact k9) (fun hq => by rw [if_neg (show ¬ g_c1 .gt x = true from by simpa [g_c1, g_c2] using hq)] at k9; exact k9)
    | le => exact lv_if_le hx hb (hd (Nat.succ_ne_zero _)) ht (fun hq => by rw [if_pos (show g_c1 .le x = true from decide_eq_true (by assumption))] at k9; exact k9) (fun hq => by rw [if_neg (show ¬ g_c1 .le x = true from by simpa [g_c1, g_c2] using hq)] at k9; exact k9)
  | if_icmp cd off =>
    simp only [g_stp] at h
    obtain ⟨tg, ht, h⟩ := Option.bind_eq_some_iff.mp h
    have ht := g_tg_i ht
    obtain ⟨x2, x1, t, e0, h9⟩ := g_pII_i h
    subst e0
    replace h := h9
    cases h
    refine g_same (fun K hR hl => ?_)
    have k9 := K hR hl
    cases cd with
    | eq => exact lv_icmp_eq hx hb (hd (Nat.succ_ne_zero _)) ht (fun hq => by rw [if_pos (show g_c2 .eq x1 x2 = true from decide_eq_true (by assumption))] at k9; exact k9) (fun hq => by rw [if_neg (show ¬ g_c2 .eq x1 x2 = true from by simpa [g_c1, g_c2] using hq)] at k9; exact k9)
    | ne => exact lv_icmp_ne hx hb (hd (Nat.succ_ne_zero _)) ht (fun hq => by rw [if_pos (show g_c2 .ne x1 x2 = true from decide_eq_true (by assumption))] at k9; exact k9) (fun hq => by rw [if_neg (show ¬ g_c2 .ne x1 x2 = true from by simpa [g_c1, g_c2] using hq)] at k9; exact k9)
    | lt => exact lv_icmp_lt hx hb (hd (Nat.succ_ne_zero _)) ht (fun hq => by rw [if_pos (show g_c2 .lt x1 x2 = true from decide_eq_true (by assumption))] at k9; exact k9) (fun hq => by rw [if_neg (show ¬ g_c2 .lt x1 x2 = true from by simpa [g_c1, g_c2] using hq)] at k9; exact k9)
    | ge => exact lv_icmp_ge hx hb (hd (Nat.succ_ne_zero _)) ht (fun hq => by rw [if_pos (show g_c2 .ge x1 x2 = true from decide_eq_true (by assumption))] at k9; exact k9) (fun hq => by rw [if_neg (show ¬ g_c2 .ge x1 x2 = true from by simpa [g_c1, g_c2] using hq)] at k9; exact k9)
    | gt => exact lv_icmp_gt hx hb (hd (Nat.succ_ne_zero _)) ht (fun hq => by rw [if_pos (show g_c2 .gt x1 x2 = true from decide_eq_true (by assumption))] at k9; exact k9) (fun hq => by rw [if_neg (show ¬ g_c2 .gt x1 x2 = true from by simpa [g_c1, g_c2] using hq)] at k9; exact k9)
    | le => exact lv_icmp_le hx hb (hd (Nat.succ_ne_zero _)) ht (fun hq => by rw [if_pos (show g_c2 .le x1 x2 = true from decide_eq_true (by assumption))] at k9; exact k9) (fun hq => by rw [if_neg (show ¬ g_c2 .le x1 x2 = true from by simpa [g_c1, g_c2] using hq)] at k9; exact k9)
  | goto off =>
    simp only [g_stp] at h
    obtain ⟨tg, ht, h⟩ := Option.bind_eq_some_iff.mp h
    cases h
    exact g_same (fun K hR hl => lv_goto hx hb (hd (Nat.succ_ne_zero _)) (g_tg_i ht) (K hR hl))
  | ifnull off =>
    simp only [g_stp] at h
    obtain ⟨tg, ht, h⟩ := Option.bind_eq_some_iff.mp h
    obtain ⟨v, t, e0, h9⟩ := g_pV_i h
    subst e0
    replace h := h9
    cases v with
    | ref a => cases h; exact g_same (fun K hR hl => lv_ifnull hx hb (hd (Nat.succ_ne_zero _)) (K hR hl))
    | null => cases h; exact g_same (fun K hR hl => lv_ifnullN hx hb (hd (Nat.succ_ne_zero _)) (g_tg_i ht) (K hR hl))
    | _ => cases h
  | ifnonnull off =>
    simp only [g_stp] at h
    obtain ⟨tg, ht, h⟩ := Option.bind_eq_some_iff.mp h
    obtain ⟨v, t, e0, h9⟩ := g_pV_i h
    subst e0
    replace h := h9
    cases v with
    | ref a => cases h; exact g_same (fun K hR hl => lv_ifnonnull hx hb (hd (Nat.succ_ne_zero _)) (g_tg_i ht) (K hR hl))
    | null => cases h; exact g_same (fun K hR hl => lv_ifnonnullN hx hb (hd (Nat.succ_ne_zero _)) (K hR hl))
    | _ => cases h
  | tableswitch df lo hi offs =>
    simp only [g_stp] at h
    obtain ⟨x, t, e0, h9⟩ := g_pI_i h
    subst e0
    replace h := h9
    split at h
    · next hc =>
      obtain ⟨tg, ht, h⟩ := Option.bind_eq_some_iff.mp h
      cases h
      exact g_same (fun K hR hl => lv_tableOut hx hb hdn hc (g_tg_i ht) (K hR hl))
    · next hc =>
      obtain ⟨off, ho, h⟩ := Option.bind_eq_some_iff.mp h
      obtain ⟨tg, ht, h⟩ := Option.bind_eq_some_iff.mp h
      cases h
      exact g_same (fun K hR hl => lv_tableIn hx hb hdn (fun q => hc (Or.inl q)) (fun q => hc (Or.inr q)) ho (g_tg_i ht) (K hR hl))
  | ldc ix =>
    simp only [g_stp] at h
    split at h
    · next x j he => cases h; exact g_same (fun K hR hl => lv_ldc hx hb hown (g_w hts (gv_cs_int he)) (hd (Nat.succ_ne_zero _)) (K hR hl))
    · cases h
  | ldc2_w ix =>
    simp only [g_stp] at h
    split at h
    · next x j he => cases h; exact g_same (fun K hR hl => lv_ldc2 hx hb hown (g_w hts (gv_cs_long he)) (hd (Nat.succ_ne_zero _)) (K hR hl))
    · next x j he => cases h; exact g_same (fun K hR hl => lv_ldc2d hx hb hown (g_w hts (gv_cs_double he)) (hd (Nat.succ_ne_zero _)) (K hR hl))
    · cases h
  | getfield ix =>
    simp only [g_stp] at h
    split at h
    · cases h
    · next ci k j host ref hf =>
      obtain ⟨a, t, e0, h9⟩ := g_pR_i h
      subst e0
      replace h := h9
      split at h
      · next cj fs he =>
        split at h
        · next hc =>
          subst hc
          obtain ⟨v, hv, h⟩ := Option.bind_eq_some_iff.mp h
          cases h
          refine g_same (fun K hR hl => ?_)
          obtain ⟨hci, hk, hrf, hw⟩ := g_fl_ok hf
          obtain ⟨ha, he⟩ := g_rd_i he
          obtain ⟨hP, hD, hS, ⟨tys, hKt, hT⟩, hWF, h0, h1⟩ := id hR
          obtain ⟨q0, hq, -⟩ := g_at (cA := cA) (ρ := ρ) ha he
          have hv2 : (fs.map (g_tr ρ))[k]? = some (g_tr ρ v) := by rw [List.getElem?_map, hv]; rfl
          have hsame := g_same_f (args := args) hts hrf
          cases host with
          | none => exact va_get hx hb (Ts := u_ws (g_cl cj).1 (g_cl cj).2.1 (g_cl cj).2.2) (fun w hw => g_gw_moved (State.WarmedH.refl s) ((g_cl_ok hci).1 w hw).2 (hts w ((g_cl_ok hci).1 w hw).1 ((g_cl_ok hci).1 w hw).2)) (fun w h => h) hown hKt hP q0 hq (g_cl_at hci) k hk (g_w hts (gp_w_ok hw)) hsame hv2 (hd (Nat.succ_ne_zero _)) (K hR hl)
          | some host => exact va_getN hx hb (Ts := u_ws (g_cl cj).1 (g_cl cj).2.1 (g_cl cj).2.2) (fun w hw => g_gw_moved (State.WarmedH.refl s) ((g_cl_ok hci).1 w hw).2 (hts w ((g_cl_ok hci).1 w hw).1 ((g_cl_ok hci).1 w hw).2)) (fun w h => h) hown hKt hP q0 hq (g_cl_at hci) k hk (g_w hts (gp_w_ok hw)) hsame hv2 (hd (Nat.succ_ne_zero _)) (K hR hl)
        · cases h
      · cases h
  | putfield ix =>
    simp only [g_stp] at h
    split at h
    · cases h
    · next ci k j host ref hf =>
      obtain ⟨v, a, t, e0, h9⟩ := g_pRV_i h
      subst e0
      replace h := h9
      split at h
      · next cj fs he =>
        split at h
        · next hc =>
          obtain ⟨hcj, hlen, hput, hokv, hpf⟩ := hc
          subst hcj
          cases h
          obtain ⟨hci, hk, hrf, hw⟩ := g_fl_ok hf
          obtain ⟨ha, he⟩ := g_rd_i he
          refine g_write (fun hWF => ?_) (fun tys _ t x hx => by cases hx) (fun K hR hl => ?_)
          · intro v' hv'
            rcases List.mem_or_eq_of_mem_set hv' with h9 | h9
            · exact hWF a ha _ he v' h9
            · rw [h9]; exact hokv
          · obtain ⟨hP, hD, hS, ⟨tys, hKt, hT⟩, hWF, h0, h1⟩ := id hR
            obtain ⟨q0, hq, hset⟩ := g_at (cA := cA) (ρ := ρ) ha he
            have hset := hset (.inl (cj, fs.set k v))
            have e9 : g_trE cA ρ (.inl (cj, fs.set k v)) = .inr (cj, (fs.map (g_tr ρ)).set k (g_tr ρ v)) := by
              show Sum.inr (cj, (fs.set k v).map (g_tr ρ)) = _
              rw [List.map_set]
            rw [e9] at hset
            have hsame := g_same_f (args := args) hts hrf
            have hT1 := (g_cl_ok hci)
            have hpt := g_put_tr hput ρ
            have hlen2 : k < (fs.map (g_tr ρ)).length := by rw [List.length_map]; exact hlen
            cases hfin : ((g_cl cj).2.1 k).2.2.2 with
            | false =>
              cases host with
              | none => exact va_put hx hb (Ts := u_ws (g_cl cj).1 (g_cl cj).2.1 (g_cl cj).2.2) (fun w hw => g_gw_moved (State.WarmedH.refl s) (hT1.1 w hw).2 (hts w (hT1.1 w hw).1 (hT1.1 w hw).2)) (fun w h => h) (g_ft cj) hT1.2.1 hT1.2.2 hown hKt hP hD hS q0 hq (g_cl_at hci) k hk (g_w hts (gp_w_ok hw)) hsame hfin (hT1.2.1 k hk) hpt.1 hpt.2 hlen2 (hd (Nat.succ_ne_zero _)) (fun H1 locs1 hP1 hD1 hS1 => K H1 locs1 (by rw [← hset]; exact hP1) (by rw [← hset]; exact hD1) hS1)
              | some host => exact va_putN hx hb (Ts := u_ws (g_cl cj).1 (g_cl cj).2.1 (g_cl cj).2.2) (fun w hw => g_gw_moved (State.WarmedH.refl s) (hT1.1 w hw).2 (hts w (hT1.1 w hw).1 (hT1.1 w hw).2)) (fun w h => h) (g_ft cj) hT1.2.1 hT1.2.2 hown hKt hP hD hS q0 hq (g_cl_at hci) k hk (g_w hts (gp_w_ok hw)) hsame hfin (hT1.2.1 k hk) hpt.1 hpt.2 hlen2 (hd (Nat.succ_ne_zero _)) (fun H1 locs1 hP1 hD1 hS1 => K H1 locs1 (by rw [← hset]; exact hP1) (by rw [← hset]; exact hD1) hS1)
            | true =>
              simp only [g_pf, hfin, Bool.not_true, Bool.false_or, Bool.and_eq_true, beq_iff_eq] at hpf
              cases host with
              | none => exact va_putF hx hb (Ts := u_ws (g_cl cj).1 (g_cl cj).2.1 (g_cl cj).2.2) (fun w hw => g_gw_moved (State.WarmedH.refl s) (hT1.1 w hw).2 (hts w (hT1.1 w hw).1 (hT1.1 w hw).2)) (fun w h => h) (g_ft cj) hT1.2.1 hT1.2.2 hown hKt hP hD hS q0 hq (g_cl_at hci) k hk (g_w hts (gp_w_ok hw)) hsame hfin (hnm hpf.1) hpf.2.1 (hT1.2.1 k hk) hpt.1 hpt.2 hlen2 (hd (Nat.succ_ne_zero _)) (fun H1 locs1 hP1 hD1 hS1 => K H1 locs1 (by rw [← hset]; exact hP1) (by rw [← hset]; exact hD1) hS1)
              | some host => cases hpf.2.2
        · cases h
      · cases h
  | new ix =>
    simp only [g_stp] at h
    split at h
    · cases h
    · next ci j j1 j2 hf =>
      split at h
      · next hc =>
        cases h
        obtain ⟨hci, hw1, hw2, hw3⟩ := g_nw_ok hf
        refine g_make (Nat.le_succ _) (Nat.le_add_right _ _) hc.1 hc.2 (g_df_ok _ _) (fun hc9 hd9 K hR hl => ?_)
        obtain ⟨hP, hD, hS, ⟨tys, hKt, hT⟩, hWF, h0, h1⟩ := id hR
        have e9 : g_trE cA ρ (.inl (ci, g_df ci)) = .inr (ci, g_df ci) := by
          show Sum.inr (ci, (g_df ci).map (g_tr ρ)) = _
          rw [g_df_tr]
        have hT1 := (g_cl_ok hci)
        exact va_new hx hb (Ts := u_ws (g_cl ci).1 (g_cl ci).2.1 (g_cl ci).2.2) (fun w hw => g_gw_moved (State.WarmedH.refl s) (hT1.1 w hw).2 (hts w (hT1.1 w hw).1 (hT1.1 w hw).2)) (fun w h => h) (g_ft ci) hT1.2.1 hown (g_w hts (gp_w_ok hw1)) (g_w hts (gp_w_ok hw2)) (g_w hts (gp_w_ok hw3)) hKt hP hD hS hA (g_cl_at hci) (g_df_at ci) hc9 hd9 (hd (Nat.succ_ne_zero _)) (fun q H1 hP1 hD1 hS1 => K q H1 tys [] hKt hT (by rw [List.append_nil]; exact hKt) (fun t x hx => by cases hx) (by rw [e9]; exact hP1) (by rw [e9]; exact hD1) hS1)
      · cases h
  | newarray at_ =>
    simp only [g_stp] at h
    obtain ⟨x, t, e0, h9⟩ := g_pI_i h
    subst e0
    replace h := h9
    split at h
    · next hc =>
      obtain ⟨hn, hbig, hlv, hst9⟩ := hc
      cases at_ with
      | int =>
        dsimp only at h
        cases h
        refine g_make (Nat.le_succ _) (Nat.le_add_right _ _) hlv hst9 trivial (fun hc9 hd9 K hR hl => ?_)
        obtain ⟨hP, hD, hS, ⟨tys, hKt, hT⟩, hWF, h0, h1⟩ := id hR
        exact va_newa (atype := .int) (ty := .int) hx hb (g_w hts (gp_w_ok gv_acI)) rfl hKt hP hD hS hA (a0 := (x.toNatClampNeg, .inl (fun _ => 0))) (fun _ => rfl) hn rfl (show x.toNatClampNeg * componentBytes .int ≤ 536870912 from Nat.le_trans (Nat.mul_le_mul_right _ hbig) (Nat.le_of_ble_eq_true rfl)) hc9 hd9 (hd (Nat.succ_ne_zero _)) (fun q cB H1 hK1 hP1 hD1 hS1 => by
          have hcB : cB = cA 0 := hcA 0 .int cB rfl (hK1.2 tys.length (cB, .int) (by simp)).2
          subst hcB
          exact K q H1 tys [(cA 0, .int)] hKt hT hK1 (fun t x hx => by cases hx; exact ⟨tys.length, .int, rfl, by simp⟩) hP1 hD1 hS1)
      | long =>
        dsimp only at h
        cases h
        refine g_make (Nat.le_succ _) (Nat.le_add_right _ _) hlv hst9 trivial (fun hc9 hd9 K hR hl => ?_)
        obtain ⟨hP, hD, hS, ⟨tys, hKt, hT⟩, hWF, h0, h1⟩ := id hR
        exact va_newa (atype := .long) (ty := .long) hx hb (g_w hts (gp_w_ok gv_acJ)) rfl hKt hP hD hS hA (a0 := (x.toNatClampNeg, .inr (.inl (fun _ => 0)))) (fun _ => rfl) hn rfl (show x.toNatClampNeg * componentBytes .long ≤ 536870912 from Nat.le_trans (Nat.mul_le_mul_right _ hbig) (Nat.le_of_ble_eq_true rfl)) hc9 hd9 (hd (Nat.succ_ne_zero _)) (fun q cB H1 hK1 hP1 hD1 hS1 => by
          have hcB : cB = cA 1 := hcA 1 .long cB rfl (hK1.2 tys.length (cB, .long) (by simp)).2
          subst hcB
          exact K q H1 tys [(cA 1, .long)] hKt hT hK1 (fun t x hx => by cases hx; exact ⟨tys.length, .long, rfl, by simp⟩) hP1 hD1 hS1)
      | _ => cases h
    · cases h
  | anewarray ix =>
    simp only [g_stp] at h
    split at h
    · cases h
    · next tg j j1 hf =>
      obtain ⟨x, t, e0, h9⟩ := g_pI_i h
      subst e0
      replace h := h9
      split at h
      · next hc =>
        obtain ⟨hn, hbig, hlv, hst9⟩ := hc
        cases h
        obtain ⟨C, hC, hw1⟩ := g_an_ok hf
        refine g_make (Nat.le_succ _) (Nat.le_add_right _ _) hlv hst9 (fun i k hk => by cases hk) (fun hc9 hd9 K hR hl => ?_)
        obtain ⟨hP, hD, hS, ⟨tys, hKt, hT⟩, hWF, h0, h1⟩ := id hR
        exact va_newq hx hb hown (g_w hts (gp_w_ok hw1)) (hAO tg C hC) hKt hP hD hS hA hn rfl (Nat.le_trans (Nat.mul_le_mul_right _ hbig) (Nat.le_of_ble_eq_true rfl)) hc9 hd9 (hd (Nat.succ_ne_zero _)) (fun q cB H1 hK1 hP1 hD1 hS1 => by
          have hcB : cB = cA tg := hcA tg (.object C) cB hC (hK1.2 tys.length (cB, .object C) (by simp)).2
          subst hcB
          exact K q H1 tys [(cA tg, .object C)] hKt hT hK1 (fun t x hx => by cases hx; exact ⟨tys.length, .object C, hC, by simp⟩) hP1 hD1 hS1)
      · cases h
  | arraylength =>
    simp only [g_stp] at h
    obtain ⟨a, t, e0, h9⟩ := g_pR_i h
    subst e0
    replace h := h9
    split at h
    · next ha0 =>
      subst ha0
      cases h
      refine g_same (fun K hR hl => ?_)
      obtain ⟨hP, hD, hS, ⟨tys, hKt, hT⟩, hWF, h0, h1⟩ := id hR
      have k9 : W p l e R s m args below meth cc H locs c d Q (F0 m pc ls (.ref b.1 :: t.map (g_tr ρ))) := va_slen hx hb hX hbl hbA hS (hd (Nat.succ_ne_zero _)) (K hR hl)
      rw [← h0] at k9
      exact k9
    · next ha0 =>
     split at h
     · next ha1 =>
      subst ha1
      cases h
      refine g_same (fun K hR hl => ?_)
      obtain ⟨hP, hD, hS, ⟨tys, hKt, hT⟩, hWF, h0, h1⟩ := id hR
      have k9 : W p l e R s m args below meth cc H locs c d Q (F0 m pc ls (.ref b.2 :: t.map (g_tr ρ))) := va_tlen (v := 0) hx hb hT3 hS rfl (hd (Nat.succ_ne_zero _)) (K hR hl)
      rw [← h0] at k9
      exact k9
     · next ha1 =>
      split at h
      · next tg nn x he =>
        cases h
        refine g_same (fun K hR hl => ?_)
        obtain ⟨ha, he⟩ := g_rd_i he
        obtain ⟨hP, hD, hS, ⟨tys, hKt, hT⟩, hWF, h0, h1⟩ := id hR
        obtain ⟨q0, hq, -⟩ := g_at (cA := cA) (ρ := ρ) ha he
        obtain ⟨t0, ty, -, ht0⟩ := hT a tg _ ha he
        have hlen : Int32.ofNat (g_trA (cA tg) ρ (nn, x)).2.1 = Int32.ofNat nn := by
          rcases x with f | f | f <;> rfl
        exact va_alen hx hb hKt hP q0 t0 (cA := (g_trA (cA tg) ρ (nn, x)).1) (x := (g_trA (cA tg) ρ (nn, x)).2) hq (ty := ty) (by rcases x with f | f | f <;> exact ht0) hlen (hd (Nat.succ_ne_zero _)) (K hR hl)
      · cases h
  | iaload =>
    simp only [g_stp] at h
    obtain ⟨i, a, t, e0, h9⟩ := g_pRI_i h
    subst e0
    replace h := h9
    split at h
    · next ha0 =>
      subst ha0
      split at h
      · next hin =>
        cases h
        refine g_same (fun K hR hl => ?_)
        obtain ⟨hP, hD, hS, ⟨tys, hKt, hT⟩, hWF, h0, h1⟩ := id hR
        have k9 : W p l e R s m args below meth cc H locs c d Q (F0 m pc ls (.int i :: .ref b.1 :: t.map (g_tr ρ))) := va_sld hx hb hX hbl hbA hS (g_ix_i hin) (hd (Nat.succ_ne_zero _)) (K hR hl)
        rw [← h0] at k9
        exact k9
      · cases h
    · next ha0 =>
      split at h
      · next nn f he =>
        split at h
        · next hin =>
          cases h
          refine g_same (fun K hR hl => ?_)
          obtain ⟨ha, he⟩ := g_rd_i he
          obtain ⟨hP, hD, hS, ⟨tys, hKt, hT⟩, hWF, h0, h1⟩ := id hR
          obtain ⟨q0, hq, -⟩ := g_at (cA := cA) (ρ := ρ) ha he
          obtain ⟨t0, ty, hty, ht0⟩ := hT a 0 _ ha he
          cases hty
          exact va_iald hx hb hKt hP q0 t0 hq ht0 (g_ix_i hin) (hd (Nat.succ_ne_zero _)) (K hR hl)
        · cases h
      · cases h
  | laload =>
    simp only [g_stp] at h
    obtain ⟨i, a, t, e0, h9⟩ := g_pRI_i h
    subst e0
    replace h := h9
    split at h
    · next nn f he =>
      split at h
      · next hin =>
        cases h
        refine g_same (fun K hR hl => ?_)
        obtain ⟨ha, he⟩ := g_rd_i he
        obtain ⟨hP, hD, hS, ⟨tys, hKt, hT⟩, hWF, h0, h1⟩ := id hR
        obtain ⟨q0, hq, -⟩ := g_at (cA := cA) (ρ := ρ) ha he
        obtain ⟨t0, ty, hty, ht0⟩ := hT a 1 _ ha he
        cases hty
        exact va_lald hx hb hKt hP q0 t0 hq ht0 (g_ix_i hin) (hd (Nat.succ_ne_zero _)) (K hR hl)
      · cases h
    · cases h
  | aaload =>
    simp only [g_stp] at h
    obtain ⟨i, a, t, e0, h9⟩ := g_pRI_i h
    subst e0
    replace h := h9
    split at h
    · next tg nn f he =>
      split at h
      · next hin =>
        cases h
        refine g_same (fun K hR hl => ?_)
        obtain ⟨ha, he⟩ := g_rd_i he
        obtain ⟨hP, hD, hS, ⟨tys, hKt, hT⟩, hWF, h0, h1⟩ := id hR
        obtain ⟨q0, hq, -⟩ := g_at (cA := cA) (ρ := ρ) ha he
        obtain ⟨t0, ty, hty, ht0⟩ := hT a tg _ ha he
        have hob := hin.2
        unfold g_obj at hob
        rw [hty] at hob
        cases ty with
        | object C =>
          have k9 := K hR hl
          rw [List.map_cons, ← g_rf_tr] at k9
          exact va_aldq hx hb hKt hP q0 t0 hq ht0 (g_ix_i hin.1) (hd (Nat.succ_ne_zero _)) k9
        | _ => cases hob
      · cases h
    · cases h
  | iastore =>
    simp only [g_stp] at h
    obtain ⟨x, i, a, t, e0, h9⟩ := g_pRII_i h
    subst e0
    replace h := h9
    split at h
    · next nn f he =>
      split at h
      · next hin =>
        cases h
        obtain ⟨ha, he⟩ := g_rd_i he
        refine g_write (fun _ => trivial) (fun tys hT t' x' hx' => by cases hx'; exact hT a 0 _ ha he) (fun K hR hl => ?_)
        obtain ⟨hP, hD, hS, ⟨tys, hKt, hT⟩, hWF, h0, h1⟩ := id hR
        obtain ⟨q0, hq, hset⟩ := g_at (cA := cA) (ρ := ρ) ha he
        have hset := hset (.inr (0, nn, .inl (upd f i.toNatClampNeg x)))
        obtain ⟨t0, ty, hty, ht0⟩ := hT a 0 _ ha he
        cases hty
        exact va_iast hx hb hKt hP hD hS q0 t0 hq ht0 (g_ix_i hin) (hd (Nat.succ_ne_zero _)) (fun H1 locs1 hP1 hD1 hS1 => K H1 locs1 (by rw [← hset]; exact hP1) (by rw [← hset]; exact hD1) hS1)
      · cases h
    · cases h
  | lastore =>
    simp only [g_stp] at h
    obtain ⟨x, i, a, t, e0, h9⟩ := g_pRIL_i h
    subst e0
    replace h := h9
    split at h
    · next nn f he =>
      split at h
      · next hin =>
        cases h
        obtain ⟨ha, he⟩ := g_rd_i he
        refine g_write (fun _ => trivial) (fun tys hT t' x' hx' => by cases hx'; exact hT a 1 _ ha he) (fun K hR hl => ?_)
        obtain ⟨hP, hD, hS, ⟨tys, hKt, hT⟩, hWF, h0, h1⟩ := id hR
        obtain ⟨q0, hq, hset⟩ := g_at (cA := cA) (ρ := ρ) ha he
        have hset := hset (.inr (1, nn, .inr (.inl (vp_updL f i.toNatClampNeg x))))
        obtain ⟨t0, ty, hty, ht0⟩ := hT a 1 _ ha he
        cases hty
        exact va_last hx hb hKt hP hD hS q0 t0 hq ht0 (g_ix_i hin) (hd (Nat.succ_ne_zero _)) (fun H1 locs1 hP1 hD1 hS1 => K H1 locs1 (by rw [← hset]; exact hP1) (by rw [← hset]; exact hD1) hS1)
      · cases h
    · cases h
  | aastore =>
    simp only [g_stp] at h
    obtain ⟨v, i, a, t, e0, h9⟩ := g_pRIR_i h
    subst e0
    replace h := h9
    have e10 : ∀ (f : Nat → Option Nat) (tg nn : Nat), g_trE cA ρ (.inr (tg, nn, .inr (.inr (va_up f i.toNatClampNeg (some v))))) = .inl (cA tg, nn, .inr (.inr (.inr (.inr (va_up (fun j => (f j).map ρ) i.toNatClampNeg (some (ρ v))))))) := fun f tg nn => by
      show Sum.inl (cA tg, nn, Sum.inr (Sum.inr (Sum.inr (Sum.inr (fun j => (va_up f i.toNatClampNeg (some v) j).map ρ))))) = _
      have : (fun j => (va_up f i.toNatClampNeg (some v) j).map ρ) = va_up (fun j => (f j).map ρ) i.toNatClampNeg (some (ρ v)) := funext fun j => by
        unfold va_up
        split <;> rfl
      rw [this]
    split at h
    · next tg nn f ci fs he hv =>
      split at h
      · next hin =>
        cases h
        obtain ⟨hin, htg, hci⟩ := hin
        obtain ⟨ha, he⟩ := g_rd_i he
        obtain ⟨hv1, hv⟩ := g_rd_i hv
        refine g_write (fun hWF => ?_) (fun tys hT t' x' hx' => by cases hx'; exact hT a tg _ ha he) (fun K hR hl => ?_)
        · intro j k hk
          unfold va_up at hk
          split at hk
          · cases hk; exact hv1
          · exact hWF a ha _ he j k hk
        · obtain ⟨hP, hD, hS, ⟨tys, hKt, hT⟩, hWF, h0, h1⟩ := id hR
          obtain ⟨q0, hq, hset⟩ := g_at (cA := cA) (ρ := ρ) ha he
          obtain ⟨qk, hqk, -⟩ := g_at (cA := cA) (ρ := ρ) hv1 hv
          have hset := hset (.inr (tg, nn, .inr (.inr (va_up f i.toNatClampNeg (some v)))))
          rw [e10] at hset
          obtain ⟨t0, ty, hty, ht0⟩ := hT a tg _ ha he
          cases hty.symm.trans htg
          exact va_astq hx hb hKt hP hD hS q0 t0 qk ci hq ht0 hqk (g_cl_at hci) (g_ix_i hin) (hd (Nat.succ_ne_zero _)) (fun H1 locs1 hP1 hD1 hS1 => K H1 locs1 (by rw [← hset]; exact hP1) (by rw [← hset]; exact hD1) hS1)
      · split at h
        · next hin =>
          cases h
          obtain ⟨hin, hca⟩ := hin
          obtain ⟨ha, he⟩ := g_rd_i he
          obtain ⟨hv1, hv⟩ := g_rd_i hv
          obtain ⟨u, hu, hu2⟩ := List.any_eq_true.mp hca
          simp only [Bool.and_eq_true, beq_iff_eq] at hu2
          have hu3 := List.all_eq_true.mp gv_ca u hu
          simp only [Bool.and_eq_true, decide_eq_true_eq] at hu3
          obtain ⟨hci, htg, hcw⟩ := hu3
          rw [hu2.1] at htg
          rw [hu2.2] at hci hcw
          refine g_write (fun hWF => ?_) (fun tys hT t' x' hx' => by cases hx'; exact hT a tg _ ha he) (fun K hR hl => ?_)
          · intro j k hk
            unfold va_up at hk
            split at hk
            · cases hk; exact hv1
            · exact hWF a ha _ he j k hk
          · obtain ⟨hP, hD, hS, ⟨tys, hKt, hT⟩, hWF, h0, h1⟩ := id hR
            obtain ⟨q0, hq, hset⟩ := g_at (cA := cA) (ρ := ρ) ha he
            obtain ⟨qk, hqk, -⟩ := g_at (cA := cA) (ρ := ρ) hv1 hv
            have hset := hset (.inr (tg, nn, .inr (.inr (va_up f i.toNatClampNeg (some v)))))
            rw [e10] at hset
            obtain ⟨t0, ty, hty, ht0⟩ := hT a tg _ ha he
            cases hty.symm.trans htg
            exact vb_astq hx hb hKt hP hD hS q0 t0 hq ht0 (va_recv hKt hP (g_cl_at hci) hqk) (vb_asgC (va_Nw.of rfl (g_w (args := args) hts (gp_w_ok hcw)))) (g_ix_i hin) (hd (Nat.succ_ne_zero _)) (fun H1 locs1 hP1 hD1 hS1 => K H1 locs1 (by rw [← hset]; exact hP1) (by rw [← hset]; exact hD1) hS1)
        · cases h
    · next tg nn f nv fv he hv =>
      split at h
      · next hin =>
        cases h
        obtain ⟨hin, hca⟩ := hin
        obtain ⟨ha, he⟩ := g_rd_i he
        obtain ⟨hv1, hv⟩ := g_rd_i hv
        obtain ⟨u, hu, hu2⟩ := List.any_eq_true.mp hca
        simp only [beq_iff_eq] at hu2
        have hu3 := List.all_eq_true.mp gv_caI u hu
        simp only [Bool.and_eq_true, decide_eq_true_eq] at hu3
        obtain ⟨htg, hcw⟩ := hu3
        rw [hu2] at htg
        refine g_write (fun hWF => ?_) (fun tys hT t' x' hx' => by cases hx'; exact hT a tg _ ha he) (fun K hR hl => ?_)
        · intro j k hk
          unfold va_up at hk
          split at hk
          · cases hk; exact hv1
          · exact hWF a ha _ he j k hk
        · obtain ⟨hP, hD, hS, ⟨tys, hKt, hT⟩, hWF, h0, h1⟩ := id hR
          obtain ⟨q0, hq, hset⟩ := g_at (cA := cA) (ρ := ρ) ha he
          obtain ⟨qk, hqk, -⟩ := g_at (cA := cA) (ρ := ρ) hv1 hv
          have hset := hset (.inr (tg, nn, .inr (.inr (va_up f i.toNatClampNeg (some v)))))
          rw [e10] at hset
          obtain ⟨t0, ty, hty, ht0⟩ := hT a tg _ ha he
          cases hty.symm.trans htg
          obtain ⟨t1, ty1, hty1, ht1⟩ := hT v 0 _ hv1 hv
          cases hty1
          exact vb_astq (C := "[I") hx hb hKt hP hD hS q0 t0 hq ht0 ⟨_, hP qk _ hqk, rfl, va_nm_int (hKt.2 t1 _ ht1).2⟩ (vb_asgC (va_Nw.of rfl (g_w (args := args) hts (gp_w_ok hcw)))) (g_ix_i hin) (hd (Nat.succ_ne_zero _)) (fun H1 locs1 hP1 hD1 hS1 => K H1 locs1 (by rw [← hset]; exact hP1) (by rw [← hset]; exact hD1) hS1)
      · cases h
    · cases h
  | getstatic ix =>
    simp only [g_stp] at h
    split at h
    · next j hf =>
      cases h
      refine g_same (fun K hR hl => ?_)
      obtain ⟨hP, hD, hS, ⟨tys, hKt, hT⟩, hWF, h0, h1⟩ := id hR
      have hw := g_look (P := gp_st) gv_st hf
      have k9 := K hR hl
      rw [← h0] at hZ3
      exact va_gets hx hb hZ3 hS hown (g_w hts (gp_w_ok hw)) (fun _ h => h) (hd (Nat.succ_ne_zero _)) k9
    · cases h
  | if_acmp cd off =>
    simp only [g_stp] at h
    obtain ⟨tg, htg, h⟩ := Option.bind_eq_some_iff.mp h
    obtain ⟨v2, v1, t, e0, h9⟩ := g_pVV_i h
    subst e0
    replace h := h9
    split at h
    · next a2 a1 =>
      split at h
      · next ha =>
        subst ha
        split at h
        · cases h
          refine g_same (fun K hR hl => ?_)
          exact lv_acmp_eq (rx := some (ρ a2)) (ry := some (ρ a2)) hx hb (hd (Nat.succ_ne_zero _)) (g_tg_i htg) (fun _ => K hR hl) (fun hn => absurd rfl hn)
        · cases h
          refine g_same (fun K hR hl => ?_)
          exact lv_acmp_ne (rx := some (ρ a2)) (ry := some (ρ a2)) hx hb (hd (Nat.succ_ne_zero _)) (g_tg_i htg) (fun hn => absurd rfl hn) (fun _ => K hR hl)
      · cases h
    · cases h
  | invokestatic ix =>
    simp only [g_stp] at h
    split at h
    · next z na rest hf =>
      obtain ⟨ci, j, j1, j2, j3, host⟩ := rest
      obtain ⟨x2, x1, t, e0, h9⟩ := g_pII_i h
      subst e0
      replace h := h9
      split at h
      · next hc =>
        cases h
        have hw := g_look gv_iv hf
        simp only [gp_iv, if_neg (show ¬ (101 : Nat) = 100 by decide), if_pos, Bool.and_eq_true] at hw
        refine g_sameC (fun hc9 hd9 K hR hl => ?_)
        exact (va_mmax hx hb (hml.trans hl.1.symm) hown (g_w hts (gp_w_ok hw.1)) (g_w hts (gp_w_ok hw.2.1)) (g_w hts (gp_w_ok hw.2.2.2)) (g_w hts (gp_w_ok hw.2.2.1)) (Nat.le_trans hc.2.1 hfr) (Nat.le_trans (by rw [g_cats]; omega) hlo) hc9 hd9 (hd (Nat.succ_ne_zero _)) (K hR hl))
      · cases h
    · next z na rest hf =>
      obtain ⟨ci, j, j1, j2, j3, host⟩ := rest
      obtain ⟨x2, x1, t, e0, h9⟩ := g_pII_i h
      subst e0
      replace h := h9
      split at h
      · next hc =>
        cases h
        have hw := g_look gv_iv hf
        simp only [gp_iv, if_neg (show ¬ (102 : Nat) = 100 by decide), if_neg (show ¬ (102 : Nat) = 101 by decide), if_pos, Bool.and_eq_true] at hw
        refine g_sameC (fun hc9 hd9 K hR hl => ?_)
        exact (va_mmin hx hb (hml.trans hl.1.symm) hown (g_w hts (gp_w_ok hw.1)) (g_w hts (gp_w_ok hw.2.1)) (g_w hts (gp_w_ok hw.2.2.2)) (g_w hts (gp_w_ok hw.2.2.1)) (Nat.le_trans hc.2.1 hfr) (Nat.le_trans (by rw [g_cats]; omega) hlo) hc9 hd9 (hd (Nat.succ_ne_zero _)) (K hR hl))
      · cases h
    · next z na rest hf =>
      obtain ⟨ci, j, j1, j2, j3, host⟩ := rest
      split at h
      · next n0 dp a sp a0 t =>
        split at h
        · next ns f nd g he0 he1 =>
          split at h
          · next hc =>
            cases h
            obtain ⟨c1, c2, c3, c4, c5, c6, c7, c8⟩ := hc
            have hw := g_look gv_iv hf
            simp only [gp_iv, if_neg (show ¬ (104 : Nat) = 100 by decide), if_neg (show ¬ (104 : Nat) = 101 by decide), if_neg (show ¬ (104 : Nat) = 102 by decide), if_neg (show ¬ (104 : Nat) = 103 by decide), if_pos, Bool.and_eq_true] at hw
            obtain ⟨ha0, he0⟩ := g_rd_i he0
            obtain ⟨ha1, he1⟩ := g_rd_i he1
            refine g_write (fun _ => trivial) (fun tys hT t' x' hx' => by cases hx'; exact hT a 0 _ ha1 he1) (fun K hR hl => ?_)
            obtain ⟨hP, hD, hS, ⟨tys, hKt, hT⟩, hWF, h0, h1⟩ := id hR
            obtain ⟨q0, hq0, -⟩ := g_at (cA := cA) (ρ := ρ) ha0 he0
            obtain ⟨q1, hq1, hset⟩ := g_at (cA := cA) (ρ := ρ) ha1 he1
            have hset := hset (.inr (0, nd, .inl (va_cpy f g sp.toNatClampNeg dp.toNatClampNeg n0.toNatClampNeg)))
            obtain ⟨t0, ty0, hty0, ht0⟩ := hT a0 0 _ ha0 he0
            obtain ⟨t1, ty1, hty1, ht1⟩ := hT a 0 _ ha1 he1
            cases hty0
            cases hty1
            exact va_copyi hx hb (hml.trans hl.1.symm) hown (g_w hts (gp_w_ok hw.1)) (g_w hts (gp_w_ok hw.2.1)) (g_w hts (gp_w_ok hw.2.2.1)) (g_w hts (gp_w_ok hw.2.2.2)) hKt hP hD hS q0 q1 t0 t1 hq0 hq1 ht0 ht1 rfl c1 c2 c3 c4 c5 (fun _ _ => rfl) (Nat.le_trans c7 hfr) (Nat.le_trans (by rw [g_cats]; exact Nat.le_trans (Nat.add_le_add_right c6 _) (show 8 + (nativeFrameWords "java/lang/System" "arraycopy" 5 + 11) ≤ 26 by decide)) (Nat.le_trans c8 hlo)) (hd (Nat.succ_ne_zero _)) (fun H1 locs1 hP1 hD1 hS1 => K H1 locs1 (by rw [← hset]; exact hP1) (by rw [← hset]; exact hD1) hS1)
          · cases h
        · cases h
      · cases h
    · next z na rest hf =>
      obtain ⟨ci, j, j1, j2, j3, host⟩ := rest
      obtain ⟨x, t, e0, h9⟩ := g_pI_i h
      subst e0
      replace h := h9
      split at h
      · next hc =>
        cases h
        have hw := g_look gv_iv hf
        simp only [gp_iv, if_neg (show ¬ (103 : Nat) = 100 by decide), if_neg (show ¬ (103 : Nat) = 101 by decide), if_neg (show ¬ (103 : Nat) = 102 by decide), if_pos, Bool.and_eq_true] at hw
        refine g_sameC (fun hc9 hd9 K hR hl => ?_)
        exact (va_mabs hx hb (hml.trans hl.1.symm) hown (g_w hts (gp_w_ok hw.1)) (g_w hts (gp_w_ok hw.2.1)) (g_w hts (gp_w_ok hw.2.2.2)) (g_w hts (gp_w_ok hw.2.2.1)) (Nat.le_trans hc.2.1 hfr) (Nat.le_trans (by rw [g_cats]; omega) hlo) hc9 hd9 (hd (Nat.succ_ne_zero _)) (K hR hl))
      · cases h
    · cases h
  | invokespecial ix =>
    simp only [g_stp] at h
    split at h
    · next z na rest hf =>
      obtain ⟨ci, j, j1, j2, j3, host⟩ := rest
      obtain ⟨a, t, e0, h9⟩ := g_pR_i h
      subst e0
      replace h := h9
      split at h
      · next hc =>
        cases h
        have hw := g_look gv_iv hf
        simp only [gp_iv, if_pos, Bool.and_eq_true] at hw
        refine g_same (fun K hR hl => ?_)
        exact W.objInit hx hb hown (g_w hts (gp_w_ok hw.1)) (g_w hts (gp_w_ok hw.2.1)) (g_w hts (gp_w_ok hw.2.2)) rfl (hl.1.trans hml.symm) rfl (hd (Nat.succ_ne_zero _)) (Nat.le_trans hc.2.1 hfr) (Nat.le_trans (by show 2 * 0 + _ + 12 ≤ _; rw [g_cats]; omega) hlo) (K hR hl)
      · cases h
    · cases h
  | _ => cases h
end GS
end
section
def gt_sub : List Nat := [2, 70, 71, 72, 73, 74, 79, 88, 89, 90, 96, 103, 162, 169, 176, 210, 226, 298, 305, 319, 335, 359, 360, 361, 362, 363, 364, 365, 366, 367, 368, 369, 370, 371, 372, 373, 374, 375, 376, 377, 378, 379, 380, 381, 382, 383, 384, 385, 386, 387, 388, 389, 390, 391, 392, 393, 394, 395, 396, 397, 398, 399, 401, 402, 403, 404, 405, 406, 407, 408, 409, 410, 411, 412, 413, 414, 415, 416, 417, 418, 419, 420, 421, 422, 423, 424, 425, 435, 436, 437, 438, 439, 440, 441, 442, 443, 445, 446, 447, 448, 449, 450, 473, 475, 490, 492, 616, 617, 618, 619, 620, 621, 622, 623, 624, 626, 627, 628, 629, 630, 631, 816, 828, 829, 830, 831, 832, 839, 851, 914, 927, 947, 948, 949, 950, 951, 952, 953, 954, 955, 956, 957, 958, 959, 960, 961, 962, 971, 972, 973, 974, 975, 976, 977, 978, 979, 980, 981, 982, 983, 984, 985, 986, 987, 988, 989, 990, 991, 992, 993, 994, 995, 996, 998, 999, 1000, 1002, 1023, 1024, 1025, 1026, 1033, 1034, 1035, 1036, 1046, 1059, 1071, 1072, 1073, 1074, 1075, 1076, 1077, 1078, 1128, 1133, 1253, 1254, 1255, 1256, 1257, 1259, 1260, 1296, 1297, 1298, 1299, 1300, 1301, 1302, 1303, 1304, 1305, 1306, 1307, 1308, 1309, 1310, 1311, 1312, 1313, 1314, 1315, 1316, 1317, 1318, 1319, 1320, 1321, 1322]
def gThr (y pc : Nat) : Option (String × Nat × Nat × Nat × String × Bool) := (gm_T.getD y []).lookup pc
/-- a method's end, with what it answers -/
def g_ret (y : Nat) (i : Instr) (st : List Value) : Option (Option Value) := match i with
  | .ireturn => match st with
    | [.int v] => match gR y with
      | some ty => if narrow ty (.int v) = .int v then some (some (.int v)) else none
      | none => none
    | _ => none
  | .lreturn => match st with
    | [.long v] => if gR y = some .long then some (some (.long v)) else none
    | _ => none
  | .dreturn => match st with
    | [.double v] => if gR y = some .double then some (some (.double v)) else none
    | _ => none
  | .areturn => match st with
    | [.ref a] => match gR y with
      | some ty => if g_isRef ty = true then some (some (.ref a)) else none
      | none => none
    | [.null] => match gR y with
      | some ty => if g_isRef ty = true then some (some .null) else none
      | none => none
    | _ => none
  | .return_ => match st with
    | [] => if gR y = none then some none else none
    | _ => none
  | _ => none
def g_ivx : Instr → Option (Nat × Nat)
  | .invokestatic ix => some (0, ix)
  | .invokevirtual ix => some (1, ix)
  | .invokespecial ix => some (2, ix)
  | _ => none
def g_rcv (M : gM) (a ci : Nat) : Bool := match g_rd M a with
  | some (.inl (cj, _)) => decide (cj = ci)
  | _ => false
/-- a call: callee, arguments, what stays on the stack -/
def g_inv (y : Nat) (i : Instr) (st : List Value) (lv : gL) (M : gM) : Option (Nat × List Value × List Value) :=
  match g_ivx i with
  | none => none
  | some (md, ix) => match gIv y ix with
    | none => none
    | some (z, na, kd, ci, _) =>
      if kd < 100 ∧ z ≠ g_ylaw ∧ na ≤ st.length ∧ gF z + 1 ≤ gF y ∧ 8 + (gLo z + 11) + gW z ≤ gW y ∧ (gm_hw.getD z false = decide (kd = 6)) ∧ lv.all (fun q => g_ok M.1 q.2) = true ∧ st.all (g_ok M.1) = true then
        (if md = 0 then (if (kd = 0 ∨ kd = 3 ∨ kd = 6) ∧ (lg_sl (st.take na).reverse).length ≤ gLo z ∧ ((st.drop na).map fun v => v.category).sum ≤ 8 then some (z, (st.take na).reverse, st.drop na) else none)
        else match st.drop na with
          | .ref a :: rest =>
            if (lg_sl (.ref a :: (st.take na).reverse)).length ≤ gLo z ∧ (rest.map fun v => v.category).sum ≤ 8 ∧ ((md = 1 ∧ (kd = 1 ∨ kd = 4) ∧ g_rcv M a ci = true) ∨ (md = 2 ∧ (kd = 2 ∨ kd = 5))) then some (z, .ref a :: (st.take na).reverse, rest) else none
          | _ => none)
      else none
def gIf (y ix : Nat) : Option (Nat × Nat) := (gc_if.getD (gK y) []).lookup ix
/-- a call by an interface, without arguments -/
def g_inf (y : Nat) (i : Instr) (st : List Value) (lv : gL) (M : gM) : Option (Nat × List Value × List Value) := match i with
  | .invokeinterface ix _ => match gIf y ix with
    | some (fi, _) => match st with
      | .ref a :: rest => if g_rcv M a (g_if fi).1 = true ∧ (g_if fi).2.1 ≠ g_ylaw ∧ gF (g_if fi).2.1 + 1 ≤ gF y ∧ 8 + (gLo (g_if fi).2.1 + 11) + gW (g_if fi).2.1 ≤ gW y ∧ 1 ≤ gLo (g_if fi).2.1 ∧ (rest.map fun v => v.category).sum ≤ 8 ∧ lv.all (fun q => g_ok M.1 q.2) = true ∧ st.all (g_ok M.1) = true then some ((g_if fi).2.1, [.ref a], rest) else none
      | _ => none
    | none => none
  | _ => none
def g_cal (y : Nat) (i : Instr) (st : List Value) (lv : gL) (M : gM) : Option (Nat × List Value × List Value × Nat) := match g_inv y i st lv M with
  | some (z, as, rest) => some (z, as, rest, 3)
  | none => match g_inf y i st lv M with
    | some (z, as, rest) => some (z, as, rest, 5)
    | none => none
/-- which handler takes E thrown at pc: none: not told here; some none: no row covers pc -/
def g_find (y pc : Nat) (E : String) : List (Nat × Nat × Nat × Nat) → Option (Option Nat)
  | [] => some none
  | q :: t => if q.1 ≤ pc ∧ pc < q.2.1 then (if q.2.2.2 = 0 then none else match (gc_ct.getD (gK y) []).lookup q.2.2.2 with
      | some v => if v.1 = E ∧ g_cast.any (fun u => u.1 == E && u.2.1 == E) = true then some (some q.2.2.1) else if g_nc.any (fun u => u.1 == E && u.2 == v.1) = true then (match g_find y pc E t with
        | some none => none
        | r => r) else none
      | none => none) else g_find y pc E t
abbrev gOut : Type := (Option Value ⊕ String) × gM × Nat × Nat
def g_run (xs : Nat → Int32) (L : Nat) : Nat → Nat → Nat → gL → List Value → gM → Nat → Nat → Option gOut
  | 0, _, _, _, _, _, _, _ => none
  | k + 1, y, pc, lv, st, M, c, d =>
    match gThr y pc with
    | some v => if (st.map fun v => v.category).sum ≤ 8 ∧ 6 ≤ gF y ∧ 98 ≤ gW y ∧ gH y = [] then some (.inr v.1, M, c + 1, d + 6) else none
    | none => match gI y pc with
      | none => none
      | some (i, _) => match g_ret y i st with
        | some r => some (.inl r, M, c, d)
        | none => match g_cal y i st lv M with
          | some (z, as, rest, nn) => match g_run xs L k z 0 (lv_args 0 as) [] M 0 0 with
            | some (.inl r, M1, c1, d1) => g_run xs L k y (pc + nn) lv (r.toList ++ rest) M1 (c + c1) (d + d1)
            | some (.inr E, M1, c1, d1) => match g_find y pc E (gH y) with
              | some (some h) => g_run xs L k y h lv [.ref M1.1] (M1.1 + 1, va_up M1.2 M1.1 none) (c + c1) (d + d1)
              | some none => some (.inr E, M1, c + c1, d + d1)
              | none => none
            | none => none
          | none => match g_stp xs L y i pc lv st M c d with
            | some q => if M.1 ≤ q.2.2.2.1.1 ∧ c ≤ q.2.2.2.2.1 ∧ d ≤ q.2.2.2.2.2 then g_run xs L k y q.1 q.2.1 q.2.2.1 q.2.2.2.1 q.2.2.2.2.1 q.2.2.2.2.2 else none
            | none => none
/-- the words of the throws -/
def gt_ws : List Cond := gt_sub.filterMap (fun i => lw_tbl[i]?)
theorem gt_ws_in {w : Cond} (h : w ∈ gt_ws) : w ∈ lw_tbl := by
  obtain ⟨i, -, hi⟩ := List.mem_filterMap.mp h
  exact List.mem_of_getElem? hi
def gt_nm : List String := ["java/lang/RuntimeException", "java/lang/Exception"]
def gp_T (y pc : Nat) (v : String × Nat × Nat × Nat × String × Bool) : Bool := match v with
  | (E, ik, is, ic, _, wide) => (Cond.classLink (gOwn y) ik E :: Cond.initialized E :: vx_atS (gOwn y) ic E gt_nm).all (fun w => gt_ws.any (fun w2 => decide (w2 = w)) && g_gw w) && (Bundle.fit E && (gt_nm.all Bundle.fit && (decide (gI y pc = some (.new ik, 3)) && (decide (gI y (pc + 3) = some (.dup, 1)) && (if wide = true then decide (gI y (pc + 4) = some (.ldc_w is, 3)) && (decide (gI y (pc + 7) = some (.invokespecial ic, 3)) && decide (gI y (pc + 10) = some (.athrow, 1))) else decide (gI y (pc + 4) = some (.ldc is, 2)) && (decide (gI y (pc + 6) = some (.invokespecial ic, 3)) && decide (gI y (pc + 9) = some (.athrow, 1))))))))
set_option maxRecDepth 100000 in
theorem gv_T : (List.range gm_T.length).all (fun y => (gm_T.getD y []).all (fun e => gp_T y e.1 e.2)) = true := by decide +kernel
def gp_ct (c ct : Nat) (v : String × Nat) : Bool := gp_w v.2 (.classLink (gc_N.getD c "") ct v.1)
theorem gv_ct : (List.range gc_ct.length).all (fun c => (gc_ct.getD c []).all (fun e => gp_ct c e.1 e.2)) = true := by decide +kernel
theorem gv_cast : g_cast.all (fun u => gp_w u.2.2 (.castable u.1 u.2.1)) = true := by decide +kernel
end
section
theorem g_find_none {y pc : Nat} {E : String} : ∀ {hh : List (Nat × Nat × Nat × Nat)}, g_find y pc E hh = some none → ∀ x ∈ tableOf hh, covers x pc = false
  | [], _, x, hx => by cases hx
  | q :: t, h, x, hx => by
    unfold g_find at h
    split at h
    · split at h
      · cases h
      · split at h
        · split at h
          · cases h
          · split at h
            · split at h
              · cases h
              · next hq => exact absurd h hq
            · cases h
        · cases h
    · next hc =>
      rcases List.mem_cons.mp hx with rfl | hx
      · show (decide (q.1 ≤ pc) && decide (pc < q.2.1)) = false
        by_cases h1 : q.1 ≤ pc
        · by_cases h2 : pc < q.2.1
          · exact absurd ⟨h1, h2⟩ hc
          · rw [decide_eq_false h2, Bool.and_false]
        · rw [decide_eq_false h1, Bool.false_and]
      · exact g_find_none h x hx
theorem g_find_some {y pc h0 : Nat} {E : String} : ∀ {hh : List (Nat × Nat × Nat × Nat)}, g_find y pc E hh = some (some h0) → ∃ (pre : List ExceptionTableEntry) (x : ExceptionTableEntry) (suf : List ExceptionTableEntry) (j : Nat), tableOf hh = pre ++ x :: suf ∧ covers x pc = true ∧ x.catchType ≠ 0 ∧ x.handlerPc = h0 ∧ (gc_ct.getD (gK y) []).lookup x.catchType = some (E, j) ∧ g_cast.any (fun u => u.1 == E && u.2.1 == E) = true ∧ ∀ z ∈ pre, covers z pc = false ∨ (z.catchType ≠ 0 ∧ ∃ (nm : String) (j2 : Nat), (gc_ct.getD (gK y) []).lookup z.catchType = some (nm, j2) ∧ (E, nm) ∈ g_nc)
  | [], h => by cases h
  | q :: t, h => by
    unfold g_find at h
    split at h
    · next hc =>
      split at h
      · cases h
      · next h0 =>
        split at h
        · next v hv =>
          split at h
          · next hE =>
            cases h
            refine ⟨[], ⟨q.1, q.2.1, q.2.2.1, q.2.2.2⟩, tableOf t, v.2, rfl, ?_, h0, rfl, ?_, hE.2, fun z hz => by cases hz⟩
            · show (decide (q.1 ≤ pc) && decide (pc < q.2.1)) = true
              rw [decide_eq_true hc.1, decide_eq_true hc.2]; rfl
            · show (gc_ct.getD (gK y) []).lookup q.2.2.2 = some (E, v.2)
              rw [hv, ← hE.1]
          · split at h
            · next hn =>
              split at h
              · cases h
              · obtain ⟨pre, x, suf, j, e1, e2, e3, e4, e5, e6, e7⟩ := g_find_some h
                refine ⟨⟨q.1, q.2.1, q.2.2.1, q.2.2.2⟩ :: pre, x, suf, j, ?_, e2, e3, e4, e5, e6, fun z hz => ?_⟩
                · show _ :: tableOf t = _
                  rw [e1]; rfl
                · rcases List.mem_cons.mp hz with rfl | hz
                  · refine Or.inr ⟨h0, v.1, v.2, hv, ?_⟩
                    obtain ⟨u, hu, hu2⟩ := List.any_eq_true.mp hn
                    simp only [Bool.and_eq_true, beq_iff_eq] at hu2
                    rw [← hu2.1, ← hu2.2]
                    exact hu
                  · exact e7 z hz
            · cases h
        · cases h
    · next hc =>
      obtain ⟨pre, x, suf, j, e1, e2, e3, e4, e5, e6, e7⟩ := g_find_some h
      refine ⟨⟨q.1, q.2.1, q.2.2.1, q.2.2.2⟩ :: pre, x, suf, j, ?_, e2, e3, e4, e5, e6, fun z hz => ?_⟩
      · show _ :: tableOf t = _
        rw [e1]; rfl
      · rcases List.mem_cons.mp hz with rfl | hz
        · refine Or.inl ?_
          show (decide (q.1 ≤ pc) && decide (pc < q.2.1)) = false
          by_cases h1 : q.1 ≤ pc
          · by_cases h2 : pc < q.2.1
            · exact absurd ⟨h1, h2⟩ hc
            · rw [decide_eq_false h2, Bool.and_false]
          · rw [decide_eq_false h1, Bool.false_and]
        · exact e7 z hz
theorem g_ifs_x {q : Nat × Nat × MethodName × Nat × Nat × Nat × Nat × Nat × Nat × Nat} (h : q ∈ g_ifs) : q.2.2.1.cls ≠ "java/lang/invoke/MethodHandle" ∧ q.2.2.1.cls ≠ "java/lang/invoke/VarHandle" := by
  have h1 := List.all_eq_true.mp gv_ifs q h
  obtain ⟨ci, z, x, jd, jf, js, ji, jp, ju, jc⟩ := q
  simp only [gp_ifs, Bool.and_eq_true, decide_eq_true_eq] at h1
  exact h1.2.2.1
theorem g_EX_mv {A A1 : Nat → Prop} {b : Nat × Nat} {L : Nat} {xs : Nat → Int32} {s U : State} (hW : s.WarmedH U.vm) (hq : ∀ q : Nat, q < s.heap.size → ¬ A q → U.heap[q]? = s.heap[q]?) (hsz : s.heap.size ≤ U.heap.size) (hAA : ∀ q, A1 q → A q) (h : g_EX A b L xs s) : g_EX A1 b L xs U := by
  obtain ⟨h1, ⟨⟨scr, x1, x2, x3, x4, x5⟩, h3, h4⟩, h5, h6, h7, h8, h9, h10, h11, h12⟩ := h
  have hal := hW.alike
  exact ⟨fun w hw hg => g_gw_moved hW hg (h1 w hw hg), ⟨⟨scr, by rw [hq b.1 h3 h4]; exact x1, State.isArrayOf_alike hal x2, x3, x4, x5⟩, Nat.lt_of_lt_of_le h3 hsz, fun z => h4 (hAA b.1 z)⟩, vx_Zq.narrow (vx_Zq.kept (vx_Zq.moved hal h5) hq) hAA, vx_Zq.narrow (vx_Zq.kept (vx_Zq.moved hal h6) hq) hAA, fun y pc v hv => (h7 y pc v hv).imp (fun sa h => vk_R.warm hW h), fun t C hC => va_AO.moved hal (h8 t C hC), fun q hq => va_Nc.moved hal (h9 q hq), va_Z.narrow (va_Z.kept (va_Z.moved hal h10) hq) hAA, va_T.narrow (va_T.kept (va_T.moved hal h11) hq) hAA, fun q hq9 => va_Fw.moved (g_ifs_x hq9) hal (h12 q hq9)⟩
def g_cAok (cA : Nat → ClassId) (U : State) : Prop := ∀ (t : Nat) (ty : FieldType) (c0 : ClassId), g_tys[t]? = some ty → va_RA U c0 ty → c0 = cA t
def g_Pc (D : va_G) (cA : Nat → ClassId) (b : Nat × Nat) (L : Nat) (xs : Nat → Int32) (sz : Nat) (ρ : Nat → Nat) (M : gM) (as : List Value) : Array Value → State → Prop := va_Pc (as.map (g_tr ρ)) (fun U => U.heap.size = sz ∧ va_P D vwCl (g_wd cA ρ M) U.heap ∧ va_D (fun _ => True) (g_wd cA ρ M) ∧ (∃ tys, va_K D vwCl tys U ∧ g_TY cA tys M) ∧ g_EX (va_A (g_wd cA ρ M) sz) b L xs U ∧ g_cAok cA U)
def g_EN (D : va_G) (cA : Nat → ClassId) (b : Nat × Nat) (fr : Nat → Prop) (ρ1 : Nat → Nat) (M1 : gM) (t : State) : Prop := va_P D vwCl (g_wd cA ρ1 M1) t.heap ∧ va_D fr (g_wd cA ρ1 M1) ∧ (∃ tys, va_K D vwCl tys t ∧ g_TY cA tys M1) ∧ g_WF M1 ∧ (ρ1 0, ρ1 1) = b
def g_Qv (D : va_G) (cA : Nat → ClassId) (b : Nat × Nat) (fr : Nat → Prop) (n0 : Nat) (ρ : Nat → Nat) (r : Option Value ⊕ String) (M1 : gM) (v : Option Value) (t : State) : Prop := ∃ (v0 : Option Value) (ρ1 : Nat → Nat), r = .inl v0 ∧ v = v0.map (g_tr ρ1) ∧ g_ag n0 ρ ρ1 ∧ g_EN D cA b fr ρ1 M1 t
def g_Xv (D : va_G) (cA : Nat → ClassId) (b : Nat × Nat) (fr : Nat → Prop) (n0 : Nat) (ρ : Nat → Nat) (r : Option Value ⊕ String) (M1 : gM) (E : String) (t : State) : Prop := ∃ ρ1 : Nat → Nat, r = .inr E ∧ g_ag n0 ρ ρ1 ∧ g_EN D cA b fr ρ1 M1 t
def g_Qc (fr : Nat → Prop) (Qv : Option Value → State → Prop) : Array Value → State → Outcome → State → Prop := fun _ st o t => (∃ v, o = .returned v ∧ Qv v t) ∧ va_F fr st t
def g_Xc (fr : Nat → Prop) (Xv : String → State → Prop) : String → State → State → Prop := fun E st t => Xv E t ∧ va_F fr st t
theorem g_blind {D : va_G} {cA : Nat → ClassId} {b : Nat × Nat} {L : Nat} {xs : Nat → Int32} {sz : Nat} {ρ : Nat → Nat} {M : gM} {as : List Value} : FrameBlind (g_Pc D cA b L xs sz ρ M as) := fun a U g mk q => by
  obtain ⟨q0, q1, qP, qD, ⟨tys, qK, qT⟩, qE, qc⟩ := q
  exact ⟨q0, q1, qP, qD, ⟨tys, va_K.moved (u := U) (U := U.calling g mk a) (Vm.Alike.refl U.vm) qK, qT⟩, g_EX_mv (s := U) (U := U.calling g mk a) (State.WarmedH.refl U) (fun _ _ _ => rfl) (Nat.le_refl _) (fun _ h => h) qE, fun t ty c0 h1 h2 => qc t ty c0 h1 (va_RA.moved (u := U.calling g mk a) (U := U) (Vm.Alike.refl U.vm) h2)⟩
theorem g_sl_tr (ρ : Nat → Nat) : ∀ l : List Value, (lg_sl (l.map (g_tr ρ))).length = (lg_sl l).length
  | [] => rfl
  | v :: l => by
    have ih := g_sl_tr ρ l
    simp only [lg_sl, List.map_cons, List.flatMap_cons, List.length_append, g_tr_cat] at ih ⊢
    rw [ih]
    by_cases h : v.category = 2 <;> simp [h]
theorem g_args_tr (ρ : Nat → Nat) : ∀ (l : List Value) (i : Nat), lv_args i (l.map (g_tr ρ)) = g_trL ρ (lv_args i l)
  | [], _ => rfl
  | v :: l, i => by
    simp only [List.map_cons, lv_args, g_trL, g_tr_cat]
    rw [g_args_tr ρ l]
    rfl
def g_word (z : Nat) : Cond := if gm_hw.getD z false then .codeWith (gN z) (gC z) (gLo z) (gR z) (gH z) else .code (gN z) (gC z) (gLo z) (gR z)
/-- a frame's end -/
def g_Fin (p : Program) (l : Launch) (e : Env) (R : Room) (s : State) (m : MethodId) (args : Array Value) (below : List Frame) (meth : Method) (cc : Code) (Q : State → Prop) (D : va_G) (cA : Nat → ClassId) (A : Nat → Prop) (b : Nat × Nat) (y n0 : Nat) (ρ0 : Nat → Nat) (r : Option Value ⊕ String) (M1 : gM) (c1 d1 : Nat) : Prop :=
  (∀ (v : Option Value) (ρ1 : Nat → Nat) (H1 : Heap) (locs1 : List Loc) (ls1 : Array Slot) (pc1 : Nat) (i : Instr) (n : Nat) (st1 : List Value), r = .inl v → g_ag n0 ρ0 ρ1 → g_RH D cA A b s ρ1 M1 H1 locs1 → gI y pc1 = some (i, n) → g_ret y i st1 = some v → W p l e R s m args below meth cc H1 locs1 c1 d1 Q (F0 m pc1 ls1 (st1.map (g_tr ρ1)))) ∧
  (∀ (E : String) (ρ1 : Nat → Nat) (H1 : Heap) (locs1 : List Loc) (ls1 : Array Slot) (pc1 : Nat) (v : String × Nat × Nat × Nat × String × Bool) (st1 : List Value) (c2 d2 : Nat), r = .inr E → g_ag n0 ρ0 ρ1 → g_RH D cA A b s ρ1 M1 H1 locs1 → ls1.size = cc.maxLocals → gThr y pc1 = some v → v.1 = E → c2 + 1 = c1 → d2 + 6 = d1 → (st1.map fun v => v.category).sum ≤ 8 → 6 ≤ gF y → 98 ≤ gW y → gH y = [] → W p l e R s m args below meth cc H1 locs1 c2 d2 Q (F0 m pc1 ls1 st1)) ∧
  (∀ (E : String) (ρ1 : Nat → Nat) (H1 : Heap) (locs1 : List Loc) (ls1 : Array Slot) (pc1 : Nat) (ce : Cell) (q : Addr) (st1 : List Value), r = .inr E → g_ag n0 ρ0 ρ1 → g_RH D cA A b s ρ1 M1 H1 locs1 → g_find y pc1 E (gH y) = some none → H1[q]? = some ce → ce.vm = .none → s.vm.findClass E = some ce.cls → vx_W p l e R s m args below meth cc H1 locs1 c1 d1 Q (F0 m pc1 ls1 st1) q)
def g_OK (xs : Nat → Int32) (L k : Nat) : Prop := ∀ (y pc : Nat) (lv : gL) (st : List Value) (M : gM) (c d : Nat) (r : Option Value ⊕ String) (M1 : gM) (c1 d1 : Nat), g_run xs L k y pc lv st M c d = some (r, M1, c1, d1) → M.1 ≤ M1.1 ∧ c ≤ c1 ∧ d ≤ d1 ∧
  ∀ (p : Program) (l : Launch) (e : Env) (R : Room) (s : State) (m : MethodId) (args : Array Value) (below : List Frame) (meth : Method) (cc : Code) (Q : State → Prop) (D : va_G) (cA : Nat → ClassId) (A : Nat → Prop) (b : Nat × Nat), g_FX p l R s m meth cc D cA A b L xs y → c1 ≤ R.cells → d1 ≤ R.slots → ∀ (n0 : Nat) (ρ0 : Nat → Nat), g_Fin p l e R s m args below meth cc Q D cA A b y n0 ρ0 r M1 c1 d1 → ∀ (ρ : Nat → Nat) (H : Heap) (locs : List Loc) (ls : Array Slot), n0 ≤ M.1 → g_ag n0 ρ0 ρ → g_RH D cA A b s ρ M H locs → lv_has ls (gLo y) (g_trL ρ lv) → W p l e R s m args below meth cc H locs c d Q (F0 m pc ls (st.map (g_tr ρ)))
end
section
theorem g_isRef_i {ty : FieldType} (h : g_isRef ty = true) : (∃ n, ty = .object n) ∨ ∃ t, ty = .array t := by
  cases ty <;> first | exact Or.inl ⟨_, rfl⟩ | exact Or.inr ⟨_, rfl⟩ | cases h
theorem g_P_kept {D : va_G} {cl : List vw_C} {ws : va_W} {H H1 : Heap} (h : va_P D cl ws H) (hk : ∀ q : Nat, q < H.size → H1[q]? = H[q]?) : va_P D cl ws H1 :=
  fun k q hq => (h k q hq).kept (hk q.1 (h k q hq).lt)
set_option maxHeartbeats 2000000 in
theorem g_fin {xs : Nat → Int32} {L : Nat} {p : Program} {l : Launch} {e : Env} {R : Room} {s : State} {m : MethodId} {args : Array Value} {below : List Frame} {meth : Method} {cc : Code} {D : va_G} {cA : Nat → ClassId} {A : Nat → Prop} {b : Nat × Nat} {y : Nat} (F : g_FX p l R s m meth cc D cA A b L xs y) {n0 : Nat} {ρ0 : Nat → Nat} {r : Option Value ⊕ String} {M1 : gM} {c1 d1 : Nat} (hRc : R.cells = c1) (hRs : R.slots = d1) (hyl : y ≠ g_ylaw) :
    g_Fin p l e R s m args below meth cc (vx_MQ below (g_Qc A (g_Qv D cA b A n0 ρ0 r M1)) (g_Xc A (g_Xv D cA b A n0 ρ0 r M1)) args s c1 d1 A) D cA A b y n0 ρ0 r M1 c1 d1 := by
  obtain ⟨hx, hb, hml, hrt, hlocks, hnm, hown, hfr, hlo, hA, htab, hst, hE, hcA⟩ := F
  refine ⟨?_, ?_, ?_⟩
  · intro v ρ1 H1 locs1 ls1 pc1 i n st1 hr hag hR hI hret
    obtain ⟨hP, hD, hS, ⟨tys, hK, hT⟩, hWF, h0, h1⟩ := id hR
    have hd := (gI_ok hI).2
    have hq : ∀ t : State, t.heap = H1 → s.WarmedH t.vm → g_Qc A (g_Qv D cA b A n0 ρ0 r M1) args s (.returned (v.map (g_tr ρ1))) t := fun t ht hW => ⟨⟨_, rfl, v, ρ1, hr, rfl, hag, by rw [ht]; exact hP, hD, ⟨tys, va_K.moved hW.alike hK, hT⟩, hWF, h0⟩, hS.F ht⟩
    cases i with
    | ireturn =>
      simp only [g_ret] at hret
      split at hret
      · split at hret
        · next ty hty =>
          split at hret
          · next hn => cases hret; exact vx_ret (W.zret hx hb (hrt.trans hty) hn hq hS.2.2 (hd (Nat.succ_ne_zero _)) hlocks)
          · cases hret
        · cases hret
      · cases hret
    | lreturn =>
      simp only [g_ret] at hret
      split at hret
      · split at hret
        · next hty => cases hret; exact vx_ret (W.lret hx hb (hrt.trans hty) hq hS.2.2 (hd (Nat.succ_ne_zero _)) hlocks)
        · cases hret
      · cases hret
    | dreturn =>
      simp only [g_ret] at hret
      split at hret
      · split at hret
        · next hty => cases hret; exact vx_ret (W.dret hx hb (hrt.trans hty) hq hS.2.2 (hd (Nat.succ_ne_zero _)) hlocks)
        · cases hret
      · cases hret
    | areturn =>
      simp only [g_ret] at hret
      split at hret
      · split at hret
        · next ty hty =>
          split at hret
          · next hn => cases hret; exact vx_ret (W.aret hx hb (hrt.trans hty) (g_isRef_i hn) (Or.inr ⟨_, rfl⟩) hq hS.2.2 (hd (Nat.succ_ne_zero _)) hlocks)
          · cases hret
        · cases hret
      · split at hret
        · next ty hty =>
          split at hret
          · next hn => cases hret; exact vx_ret (W.aret hx hb (hrt.trans hty) (g_isRef_i hn) (Or.inl rfl) hq hS.2.2 (hd (Nat.succ_ne_zero _)) hlocks)
          · cases hret
        · cases hret
      · cases hret
    | return_ =>
      simp only [g_ret] at hret
      split at hret
      · split at hret
        · next hty => cases hret; exact vx_ret (W.vret hx hb (hrt.trans hty) hq hS.2.2 (hd (Nat.succ_ne_zero _)) hlocks)
        · cases hret
      · cases hret
    | _ => cases hret
  · intro E ρ1 H1 locs1 ls1 pc1 v st1 c2 d2 hr hag hR hsize hT0 hvE hc2 hd2 hst1 hf6 hw98 hH
    obtain ⟨hP, hD, hS, ⟨tys, hK, hT⟩, hWF, h0, h1⟩ := id hR
    obtain ⟨hts, hX, hZ1, hZ2, hstr, hAO, hNc, hZ3, hT3, hFw⟩ := hE
    obtain ⟨E1, ik, is, ic, tx, wide⟩ := v
    cases hvE
    have hw := g_look gv_T hT0
    simp only [gp_T, Bool.and_eq_true, decide_eq_true_eq, List.all_cons] at hw
    obtain ⟨⟨wk, wi, wat⟩, hfit, hfits, g0, g3, g4⟩ := hw
    have hin : ∀ w : Cond, (gt_ws.any (fun w2 => decide (w2 = w)) = true ∧ g_gw w = true) → w ∈ lw_tbl ∧ g_gw w = true := fun w h => by
      obtain ⟨w2, hm, h2⟩ := List.any_eq_true.mp h.1
      cases of_decide_eq_true h2
      exact ⟨gt_ws_in hm, h.2⟩
    have hbe : ∀ w : Cond, (w ∈ lw_tbl ∧ g_gw w = true) → w.before args s = true := fun w h => g_gw_moved (State.WarmedH.refl s) h.2 (hts w h.1 h.2)
    have wk := hin _ wk
    have wi := hin _ wi
    have wat : ∀ w ∈ vx_atS (gOwn y) ic E1 gt_nm, w ∈ lw_tbl ∧ g_gw w = true := fun w hw => hin w (by
      have := List.all_eq_true.mp wat w hw
      simpa only [Bool.and_eq_true] using this)
    obtain ⟨sa, hsa⟩ := hstr y pc1 _ hT0
    have hgood : ∀ w ∈ Cond.classLink (gOwn y) ik E1 :: Cond.initialized E1 :: vx_atS (gOwn y) ic E1 gt_nm, vx_ot w = true := fun w hw => by
      rcases List.mem_cons.mp hw with rfl | hw
      · exact g_gw_ot wk.2
      · rcases List.mem_cons.mp hw with rfl | hw
        · exact g_gw_ot wi.2
        · exact g_gw_ot (wat w hw).2
    have hout : ∀ (q : Nat), ∀ x ∈ cc.exceptionTable.toList, covers x q = false := fun q x hx => by rw [htab hyl, hH] at hx; cases hx
    have hxx : ∀ t : State, s.vm.Alike t.vm → H1.size ≤ t.heap.size → (∀ q : Nat, q < H1.size → t.heap[q]? = H1[q]?) → g_Xc A (g_Xv D cA b A n0 ρ0 r M1) E1 s t := fun t hal hsz hk =>
      ⟨⟨ρ1, hr, hag, g_P_kept hP hk, hD, ⟨tys, va_K.moved hal hK, hT⟩, hWF, h0⟩, ⟨Nat.le_trans hS.1 hsz, fun q hq hnA => by rw [hk q (Nat.lt_of_lt_of_le hq hS.1)]; exact hS.2.1 q hq hnA⟩⟩
    have hlocs : (st1.map fun v => v.category).sum + (13 * (gt_nm.length + 1) + 43) ≤ R.locals := Nat.le_trans (Nat.add_le_add_right hst1 _) (Nat.le_trans (show 8 + (13 * (gt_nm.length + 1) + 43) ≤ 98 from Nat.le_of_ble_eq_true rfl) (Nat.le_trans hw98 hlo))
    have hframes : gt_nm.length + 3 < R.frames := Nat.lt_of_lt_of_le (show gt_nm.length + 3 < 6 from Nat.le_of_ble_eq_true rfl) (Nat.le_trans hf6 hfr)
    by_cases hwide : wide = true
    · rw [if_pos hwide] at g4
      simp only [Bool.and_eq_true, decide_eq_true_eq] at g4
      exact vx_throwSW hx hb hst hown hfit (fun n hn => List.all_eq_true.mp hfits n hn) (hbe _ wk) (hbe _ wi) hsa (fun w hw => hbe w (wat w hw)) hgood hZ1 hZ2 hS hsize (gI_ok g0).1 (gI_ok g3).1 (gI_ok g4.1).1 (gI_ok g4.2.1).1 (gI_ok g4.2.2).1 (hout _) hframes hlocs (by omega) (by omega) hlocks hxx hS.2.2 (by omega) (by omega)
    · rw [if_neg hwide] at g4
      simp only [Bool.and_eq_true, decide_eq_true_eq] at g4
      exact vx_throwS hx hb hst hown hfit (fun n hn => List.all_eq_true.mp hfits n hn) (hbe _ wk) (hbe _ wi) hsa (fun w hw => hbe w (wat w hw)) hgood hZ1 hZ2 hS hsize (gI_ok g0).1 (gI_ok g3).1 (gI_ok g4.1).1 (gI_ok g4.2.1).1 (gI_ok g4.2.2).1 (hout _) hframes hlocs (by omega) (by omega) hlocks hxx hS.2.2 (by omega) (by omega)
  · intro E ρ1 H1 locs1 ls1 pc1 ce q st1 hr hag hR hf hce hcv hcl
    obtain ⟨hP, hD, hS, ⟨tys, hK, hT⟩, hWF, h0, h1⟩ := id hR
    exact vx_out (by rw [htab hyl]; exact g_find_none hf) hlocks hce hcv hcl (fun t ht hal => ⟨⟨ρ1, hr, hag, by rw [ht]; exact hP, hD, ⟨tys, va_K.moved hal hK, hT⟩, hWF, h0⟩, hS.F ht⟩) hS.2.2 (Nat.le_refl _) (Nat.le_refl _)
/-- a method's contract, out of its run -/
theorem g_met {xs : Nat → Int32} {L k : Nat} (hk : g_OK xs L k) {l : Launch} {D : va_G} {cA : Nat → ClassId} {b : Nat × Nat} {sz : Nat} {ρ : Nat → Nat} {M M1 : gM} {as : List Value} {z : Nat} {r : Option Value ⊕ String} {mc ms : Nat} (h : g_run xs L k z 0 (lv_args 0 as) [] M 0 0 = some (r, M1, mc, ms)) (hz : z < gm_CI.length) (hzl : z ≠ g_ylaw) (hlen : (lg_sl as).length ≤ gLo z) (hWF : g_WF M) (h0 : (ρ 0, ρ 1) = b) (h1 : 1 < M.1) (hl : l.stackTraces = false) :
    vx_Met l (gN z) [g_word z] { frames := gF z, cells := mc, slots := ms, locals := gW z } (g_Pc D cA b L xs sz ρ M as) (g_Qc (va_A (g_wd cA ρ M) sz) (g_Qv D cA b (va_A (g_wd cA ρ M) sz) M.1 ρ r M1)) (g_Xc (va_A (g_wd cA ρ M) sz) (g_Xv D cA b (va_A (g_wd cA ρ M) sz) M.1 ρ r M1)) mc ms (va_A (g_wd cA ρ M) sz) := by
  have hme := gv_me hz
  simp only [gp_me, Bool.and_eq_true, Bool.or_eq_true, decide_eq_true_eq] at hme
  obtain ⟨hme1, hme2, hme3, hme4, hme5, hme6⟩ := hme
  have body : ∀ (p : Program) (e : Env) (s : State) (m : MethodId) (args : Array Value) (below : List Frame) (meth : Method) (c : Code), p.tables.exec = Jvm.exec → c.code = gC z → meth.sig.returnType = gR z → meth.locks = false → meth.name = (gN z).name → s.vm.findClass (gN z).cls = some m.cls → c.maxLocals = gLo z → c.exceptionTable.toList = tableOf (gH z) → g_Pc D cA b L xs sz ρ M as args s →
      W p l e { frames := gF z, cells := mc, slots := ms, locals := gW z } s m args below meth c s.heap [] 0 0 (vx_MQ below (g_Qc (va_A (g_wd cA ρ M) sz) (g_Qv D cA b (va_A (g_wd cA ρ M) sz) M.1 ρ r M1)) (g_Xc (va_A (g_wd cA ρ M) sz) (g_Xv D cA b (va_A (g_wd cA ρ M) sz) M.1 ρ r M1)) args s mc ms (va_A (g_wd cA ρ M) sz)) (entryFrame m args (gLo z)) := by
    intro p e s m args below meth c hx hb hr hlocks hnm hown hml htab hv
    obtain ⟨rfl, hsz, hP, hD0, ⟨tys, hK, hT⟩, hE, hc⟩ := hv
    subst hsz
    have hD := hD0.self (sz := s.heap.size)
    have hlen2 : (lg_sl (as.map (g_tr ρ))).length ≤ gLo z := by rw [g_sl_tr]; exact hlen
    have hls := lv_entry (as.map (g_tr ρ)) (n := gLo z) hlen2
    rw [lg_entry_eq]
    rw [g_args_tr] at hls
    have F : g_FX p l { frames := gF z, cells := mc, slots := ms, locals := gW z } s m meth c D cA (va_A (g_wd cA ρ M) s.heap.size) b L xs z :=
      ⟨hx, hb, hml, hr, hlocks, fun h9 => hnm.trans h9, by rw [← hme3]; exact hown, Nat.le_refl _, Nat.le_refl _, fun q hq => Or.inr hq, fun _ => htab, hl, hE, hc⟩
    exact (hk z 0 (lv_args 0 as) [] M 0 0 r M1 mc ms h).2.2.2 p l e _ s m _ below meth c _ D cA _ b F (Nat.le_refl _) (Nat.le_refl _) M.1 ρ (g_fin F rfl rfl hzl) ρ s.heap [] _ (Nat.le_refl _) g_ag.rf ⟨hP, hD, va_S.rf, ⟨tys, hK, hT⟩, hWF, h0, h1⟩ hls
  rcases hme1 with hme1 | hme1
  · exact absurd hme1 hzl
  · cases hhw : gm_hw.getD z false with
    | false =>
      have hw0 : g_word z = .code (gN z) (gC z) (gLo z) (gR z) := by unfold g_word; rw [hhw]; rfl
      rw [hw0]
      have hH : gH z = [] := by
        rcases hme6 with h6 | h6
        · rw [hhw] at h6; cases h6
        · exact h6
      refine vx_ofW (cc := gC z) (maxL := gLo z) (ret := gR z) (ws' := []) hme5 rfl ?_
      intro p e s m args below meth c s₁ B hml htb hv
      exact body p e s m args below meth c B.exec B.bytes B.returns B.notSynchronized (name_of_methodNamed B.named B.method).1 (findClass_of_methodNamed B.named) hml (by
        rw [hH]
        cases ht : c.exceptionTable.toList with
        | nil => rfl
        | cons x t => exact (htb x (by rw [ht]; exact List.mem_cons_self)).elim) hv
    | true =>
      have hw0 : g_word z = .codeWith (gN z) (gC z) (gLo z) (gR z) (gH z) := by unfold g_word; rw [hhw]; rfl
      rw [hw0]
      refine vx_ofWH (cc := gC z) (maxL := gLo z) (ret := gR z) (hh := gH z) (ws' := []) hme5 rfl ?_
      intro p e s m args below meth c s₁ B hml hv
      exact body p e s m args below meth c B.exec B.bytes B.returns B.notSynchronized (name_of_methodNamed B.named B.method).1 (findClass_of_methodNamed B.named) hml (vx_table (x := gN z) (y := gN z) B (atoms_spec (ws := [Cond.codeWith (gN z) (gC z) (gLo z) (gR z) (gH z)]) B.pre _ List.mem_cons_self)) hv
end
section
section VXIA
variable {p : Program} {l : Launch} {e : Env} {R : Room} {s : State} {m : MethodId} {args : Array Value} {below : List Frame} {meth : Method} {c : Code} {T : State} {locs : List Loc} {cells slots : Nat}
theorem vx_callI (X : Stand p l e R s m args below meth c T locs cells slots) (hexec : p.tables.exec = Jvm.exec) {own : String} {index : Nat} {y : MethodName} {bytes : ByteArray} {maxL : Nat}
    (hown : s.vm.findClass own = some m.cls) (hy1 : y.name = "<init>") (hlink : (Cond.methodLink own index y).before args s = true) (hinst : (Cond.instanceMethod y).before args s = true)
    (hcode : (Cond.code y bytes maxL none).before args s = true) (hy : y.cls ≠ "java/lang/invoke/MethodHandle" ∧ y.cls ≠ "java/lang/invoke/VarHandle")
    {W9 : Nat} {Pre : Pt → Array Value → Prop} {Post : Pt → Array Value → Option Value → Pt → Prop} {PostX : Pt → Array Value → Addr → Pt → Prop} (hK : vx_Back l R p e below s args y 3 W9 Pre Post PostX)
    {g : JFrame} (hg : g.method = m) (hsize : g.locals.size = c.maxLocals) {a : Addr} {argsL rest : List Value} (hlen : ∀ sig, parseMethodDescriptor y.desc = some sig → argsL.length = sig.parameters.length)
    (hstack : g.stack = argsL.reverse ++ .ref a :: rest) (hW : 2 * g.monitorRoom + (rest.map fun v => v.category).sum ≤ W9) (hdg : decode c.code g.pc = .ok (.invokespecial index, 3))
    (hpre : ∀ vm₁, s.WarmedH vm₁ → Pre ⟨T.setVm vm₁, locs, cells, slots⟩ (Value.ref a :: argsL).toArray) :
    (∃ (v : Option Value) (vm₁ : Vm) (B : Pt), s.WarmedH vm₁ ∧ Stand p l e R s m args below meth c B.U B.locs B.cells B.slots ∧ Post ⟨T.setVm vm₁, locs, cells, slots⟩ (Value.ref a :: argsL).toArray v B ∧
      ∀ target, Steps p.tables e below (B.U.setTop { g with pc := g.pc + 3, stack := v.toList ++ rest }) target → Steps p.tables e below (T.setTop g) target) ∨
    (∃ (q : Addr) (vm₁ : Vm) (B : Pt), s.WarmedH vm₁ ∧ Stand p l e R s m args below meth c B.U B.locs B.cells B.slots ∧ PostX ⟨T.setVm vm₁, locs, cells, slots⟩ (Value.ref a :: argsL).toArray q B ∧
      Steps p.tables e below (T.setTop g) ((B.U.setTop { g with stack := rest }).pushFrame (.throwing q))) := by
  subst hg
  have hpl : e.platform.magicAccessors = ({} : Platform).magicAccessors := by rw [X.admits.platform]
  obtain ⟨mk, methM, cM, kP, vm₁, hnamed, hmethM, hcodeM, -, hlocalsM, -, hkP, -, hW₁, hstep₁⟩ := Steps.initColdArgs (e := e) X.here hexec X.warmed hpl hown hy1 hy hlink hinst hcode (f := g) rfl hlen hstack hdg
  have X₁ := X.noted hW₁
  rcases hK g.method meth c ⟨T.setVm vm₁, locs, cells, slots⟩ { g with stack := rest } (.invokespecial index) mk (Value.ref a :: argsL).toArray X₁ rfl hsize hdg hW (X₁.named hnamed) (hpre vm₁ X₁.warmed) with ⟨v, B, X', hpost, hsteps⟩ | ⟨q, B, X', hpost, hsteps⟩
  · exact Or.inl ⟨v, vm₁, B, X₁.warmed, X', hpost, fun target h => hstep₁ _ fun acts => by rw [doInvoke_state]; exact hsteps.trans h⟩
  · exact Or.inr ⟨q, vm₁, B, X₁.warmed, X', hpost, hstep₁ _ fun acts => by rw [doInvoke_state]; exact hsteps⟩
end VXIA
section VXIB
variable {p : Program} {l : Launch} {e : Env} {R : Room} {s : State} {m : MethodId} {args : Array Value} {below : List Frame} {meth : Method} {c : Code} {H : Heap} {locs : List Loc} {cells slots : Nat}
variable {y : MethodName} {bytes cc : ByteArray} {maxL nL mc ms n index : Nat} {ret : Option FieldType} {ws : List Cond} {rm : Room} {Pc : Array Value → State → Prop} {Qc : Array Value → State → Outcome → State → Prop} {XC : String → State → State → Prop} {free : Addr → Prop} {Ts : List Cond} {own C : String} {b : Addr} {As rest : List Value} {g : JFrame}
theorem vx_runI (S : CallFix p m c cc nL s args Ts own) (hM : vx_Met l y ws rm Pc Qc XC mc ms free) (cw : CallB R s args own index y bytes maxL none ws rm mc ms n ∧ y.name = "<init>" ∧ (Cond.instanceMethod y).before args s = true) (hp : PreS s H Pc (.ref b :: As))
    (hg : g.method = m) (hn : As.length = n) (hsize : g.locals.size = nL) (hstack : g.stack = As.reverse ++ .ref b :: rest) (hW : 2 * g.monitorRoom + (rest.map fun v => v.category).sum ≤ 8) (hdg : decode cc g.pc = .ok (.invokespecial index, 3)) (hf : cells + mc ≤ R.cells ∧ slots + ms ≤ R.slots) :
    vx_Run p l e R s m args below meth c H locs cells slots mc ms g rest (Qc (Value.ref b :: As).toArray) XC free := by
  have hK : vx_Back l R p e below s args y 3 8 (PreOf R mc ms Pc) (PostOf Qc mc ms free) (vx_Post XC mc ms free) := vx_callBack cw.1 hM hp.1
  obtain ⟨⟨-, -, -, -, -, -, hcode, -, hy, hlen, hl⟩, hy1, hin⟩ := cw
  obtain ⟨hx, hb, hml, ho, -⟩ := S
  have hPc := hp.2
  intro T hT X
  rcases vx_callI X hx (bytes := bytes) (maxL := maxL) ho hy1 hl hin hcode hy hK hg (hsize.trans hml.symm) (a := b) (argsL := As) (rest := rest) (fun sig h => hn.trans (hlen sig h)) hstack hW (by rw [hb]; exact hdg)
    (fun vm₁ hW₁ => ⟨hf.1, hf.2, hPc (T.setVm vm₁) hT hW₁⟩) with ⟨v, vm₁, ⟨U', l2, c2, s2⟩, hW₁, X', ⟨g', mk, t, L, e1, e2, hq, h1, hL, h2, h3⟩, st⟩ | ⟨q, vm₁, ⟨U', l2, c2, s2⟩, hW₁, X', ⟨g', mk, t, L, E, ce, e1, e2, hq, hce, hcv, hcl, h1, hL, h2, h3⟩, st⟩
  · dsimp only [Pt.U, Pt.locs, Pt.cells, Pt.slots] at X' e1 e2 h1 h2 h3 st
    subst h1; subst h2; subst h3
    exact Or.inl ⟨v, (T.setVm vm₁).calling g' mk (Value.ref b :: As).toArray, t, U', L, hT, X', hL, e1, e2, hq, st⟩
  · dsimp only [Pt.U, Pt.locs, Pt.cells, Pt.slots] at X' e1 e2 h1 h2 h3 st hcl
    subst h1; subst h2; subst h3
    exact Or.inr ⟨q, (T.setVm vm₁).calling g' mk (Value.ref b :: As).toArray, t, U', L, E, ce, hT, X', hL, e1, e2, hq, hce, hcv, vx_cls hW₁ hcl, st⟩
end VXIB
/-! ===== END ===== -/
/-! ===== BEGIN a private constructor of a nest mate that throws ===== -/
section VXIC
variable {p : Program} {l : Launch} {e : Env} {R : Room} {s : State} {m : MethodId} {args : Array Value} {below : List Frame} {meth : Method} {c : Code} {T : State} {locs : List Loc} {cells slots : Nat}
theorem vx_callIN (X : Stand p l e R s m args below meth c T locs cells slots) (hexec : p.tables.exec = Jvm.exec) {own : String} {index : Nat} {host : String} {y : MethodName} {bytes : ByteArray} {maxL : Nat}
    (hown : s.vm.findClass own = some m.cls) (hy1 : y.name = "<init>") (hlink : (Cond.methodLinkNest own index y host).before args s = true) (hinst : (Cond.instanceMethod y).before args s = true)
    (hcode : (Cond.code y bytes maxL none).before args s = true) (hy : y.cls ≠ "java/lang/invoke/MethodHandle" ∧ y.cls ≠ "java/lang/invoke/VarHandle")
    {W9 : Nat} {Pre : Pt → Array Value → Prop} {Post : Pt → Array Value → Option Value → Pt → Prop} {PostX : Pt → Array Value → Addr → Pt → Prop} (hK : vx_Back l R p e below s args y 3 W9 Pre Post PostX)
    {g : JFrame} (hg : g.method = m) (hsize : g.locals.size = c.maxLocals) {a : Addr} {argsL rest : List Value} (hlen : ∀ sig, parseMethodDescriptor y.desc = some sig → argsL.length = sig.parameters.length)
    (hstack : g.stack = argsL.reverse ++ .ref a :: rest) (hW : 2 * g.monitorRoom + (rest.map fun v => v.category).sum ≤ W9) (hdg : decode c.code g.pc = .ok (.invokespecial index, 3))
    (hpre : ∀ vm₁, s.WarmedH vm₁ → Pre ⟨T.setVm vm₁, locs, cells, slots⟩ (Value.ref a :: argsL).toArray) :
    (∃ (v : Option Value) (vm₁ : Vm) (B : Pt), s.WarmedH vm₁ ∧ Stand p l e R s m args below meth c B.U B.locs B.cells B.slots ∧ Post ⟨T.setVm vm₁, locs, cells, slots⟩ (Value.ref a :: argsL).toArray v B ∧
      ∀ target, Steps p.tables e below (B.U.setTop { g with pc := g.pc + 3, stack := v.toList ++ rest }) target → Steps p.tables e below (T.setTop g) target) ∨
    (∃ (q : Addr) (vm₁ : Vm) (B : Pt), s.WarmedH vm₁ ∧ Stand p l e R s m args below meth c B.U B.locs B.cells B.slots ∧ PostX ⟨T.setVm vm₁, locs, cells, slots⟩ (Value.ref a :: argsL).toArray q B ∧
      Steps p.tables e below (T.setTop g) ((B.U.setTop { g with stack := rest }).pushFrame (.throwing q))) := by
  subst hg
  have hpl : e.platform.magicAccessors = ({} : Platform).magicAccessors := by rw [X.admits.platform]
  obtain ⟨mk, methM, cM, kP, vm₁, hnamed, hmethM, hcodeM, -, hlocalsM, -, hkP, -, hW₁, hstep₁⟩ := Steps.initColdArgsNest (e := e) X.here hexec X.warmed hpl hown hy1 hy hlink hinst hcode (f := g) rfl hlen hstack hdg
  have X₁ := X.noted hW₁
  rcases hK g.method meth c ⟨T.setVm vm₁, locs, cells, slots⟩ { g with stack := rest } (.invokespecial index) mk (Value.ref a :: argsL).toArray X₁ rfl hsize hdg hW (X₁.named hnamed) (hpre vm₁ X₁.warmed) with ⟨v, B, X', hpost, hsteps⟩ | ⟨q, B, X', hpost, hsteps⟩
  · exact Or.inl ⟨v, vm₁, B, X₁.warmed, X', hpost, fun target h => hstep₁ _ fun acts => by rw [doInvoke_state]; exact hsteps.trans h⟩
  · exact Or.inr ⟨q, vm₁, B, X₁.warmed, X', hpost, hstep₁ _ fun acts => by rw [doInvoke_state]; exact hsteps⟩
end VXIC
section VXID
variable {p : Program} {l : Launch} {e : Env} {R : Room} {s : State} {m : MethodId} {args : Array Value} {below : List Frame} {meth : Method} {c : Code} {H : Heap} {locs : List Loc} {cells slots : Nat}
theorem vx_runIN {y : MethodName} {bytes cc : ByteArray} {maxL nL mc ms n index : Nat} {ws : List Cond} {rm : Room} {Pc : Array Value → State → Prop} {Qc : Array Value → State → Outcome → State → Prop} {XC : String → State → State → Prop} {free : Addr → Prop} {Ts : List Cond} {own host : String} {b : Addr} {As rest : List Value} {g : JFrame}
    (S : CallFix p m c cc nL s args Ts own) (hM : vx_Met l y ws rm Pc Qc XC mc ms free) (cw : va_CN R s args own index y host bytes maxL none ws rm mc ms n ∧ y.name = "<init>" ∧ (Cond.instanceMethod y).before args s = true) (hp : PreS s H Pc (.ref b :: As))
    (hg : g.method = m) (hn : As.length = n) (hsize : g.locals.size = nL) (hstack : g.stack = As.reverse ++ .ref b :: rest) (hW : 2 * g.monitorRoom + (rest.map fun v => v.category).sum ≤ 8) (hdg : decode cc g.pc = .ok (.invokespecial index, 3)) (hf : cells + mc ≤ R.cells ∧ slots + ms ≤ R.slots) :
    vx_Run p l e R s m args below meth c H locs cells slots mc ms g rest (Qc (Value.ref b :: As).toArray) XC free := by
  obtain ⟨⟨⟨hrc, hrs, hfr, hlo, hws, hcw⟩, hcode, hini, hy, hlen, hl⟩, hx1, hx2⟩ := cw
  have hK : vx_Back l R p e below s args y 3 8 (PreOf R mc ms Pc) (PostOf Qc mc ms free) (vx_Post XC mc ms free) := vx_back (bytes := bytes) (maxL := maxL) (ret := none) hM hp.1 hrc hrs hfr hlo hws hcw (fun a' U hW => word_at hW (Or.inl (by first | rfl | simp [Cond.onTables, Cond.keeps, Cond.steady])) hini)
  obtain ⟨hx, hb, hml, ho, -⟩ := S
  have hPc := hp.2
  intro T hT X
  rcases vx_callIN X hx (bytes := bytes) (maxL := maxL) ho hx1 hl hx2 hcode hy hK hg (hsize.trans hml.symm) (a := b) (argsL := As) (rest := rest) (fun sig h => hn.trans (hlen sig h)) hstack hW (by rw [hb]; exact hdg)
    (fun vm₁ hW₁ => ⟨hf.1, hf.2, hPc (T.setVm vm₁) hT hW₁⟩) with ⟨v, vm₁, ⟨U', l2, c2, s2⟩, hW₁, X', ⟨g', mk, t, L, e1, e2, hq, h1, hL, h2, h3⟩, st⟩ | ⟨q, vm₁, ⟨U', l2, c2, s2⟩, hW₁, X', ⟨g', mk, t, L, E, ce, e1, e2, hq, hce, hcv, hcl, h1, hL, h2, h3⟩, st⟩
  · dsimp only [Pt.U, Pt.locs, Pt.cells, Pt.slots] at X' e1 e2 h1 h2 h3 st
    subst h1; subst h2; subst h3
    exact Or.inl ⟨v, (T.setVm vm₁).calling g' mk (Value.ref b :: As).toArray, t, U', L, hT, X', hL, e1, e2, hq, st⟩
  · dsimp only [Pt.U, Pt.locs, Pt.cells, Pt.slots] at X' e1 e2 h1 h2 h3 st hcl
    subst h1; subst h2; subst h3
    exact Or.inr ⟨q, (T.setVm vm₁).calling g' mk (Value.ref b :: As).toArray, t, U', L, E, ce, hT, X', hL, e1, e2, hq, hce, hcv, vx_cls hW₁ hcl, st⟩
end VXID
section
variable {p : Program} {l : Launch} {e : Env} {R : Room} {s : State} {m : MethodId} {args : Array Value} {below : List Frame} {meth : Method} {c : Code} {H : Heap} {locs : List Loc} {cells slots : Nat}
variable {T : State}
theorem vx_callVN (X : Stand p l e R s m args below meth c T locs cells slots) (hexec : p.tables.exec = Jvm.exec) {own C : String} {index : Nat} {host : String} {y : MethodName} {bytes : ByteArray} {maxL : Nat} {ret : Option FieldType}
    (hown : s.vm.findClass own = some m.cls) (hlink : (Cond.methodLinkNest own index y host).before args s = true) (hinst : (Cond.instanceMethod y).before args s = true) (hsel : (Cond.selects C y y).before args s = true)
    (hcode : (Cond.code y bytes maxL ret).before args s = true) (hy : y.cls ≠ "java/lang/invoke/MethodHandle" ∧ y.cls ≠ "java/lang/invoke/VarHandle")
    {W : Nat} {Pre : Pt → Array Value → Prop} {Post : Pt → Array Value → Option Value → Pt → Prop} {PostX : Pt → Array Value → Addr → Pt → Prop} (hK : vx_Back l R p e below s args y 3 W Pre Post PostX)
    {b : Addr} {cellB : Cell} (hcell : T.heap[b]? = some cellB) (hobj : cellB.vm.isStatics = false) (hcls : s.vm.findClass C = some cellB.cls)
    {g : JFrame} (hg : g.method = m) (hsize : g.locals.size = c.maxLocals) {argsL rest : List Value} (hlen : ∀ sig, parseMethodDescriptor y.desc = some sig → argsL.length = sig.parameters.length)
    (hstack : g.stack = argsL.reverse ++ .ref b :: rest) (hW : 2 * g.monitorRoom + (rest.map fun v => v.category).sum ≤ W) (hdg : decode c.code g.pc = .ok (.invokevirtual index, 3))
    (hpre : ∀ vm₁, s.WarmedH vm₁ → Pre ⟨T.setVm vm₁, locs, cells, slots⟩ (Value.ref b :: argsL).toArray) :
    (∃ (v : Option Value) (vm₁ : Vm) (B : Pt), s.WarmedH vm₁ ∧ Stand p l e R s m args below meth c B.U B.locs B.cells B.slots ∧ Post ⟨T.setVm vm₁, locs, cells, slots⟩ (Value.ref b :: argsL).toArray v B ∧
      ∀ target, Steps p.tables e below (B.U.setTop { g with pc := g.pc + 3, stack := v.toList ++ rest }) target → Steps p.tables e below (T.setTop g) target) ∨
    (∃ (q : Addr) (vm₁ : Vm) (B : Pt), s.WarmedH vm₁ ∧ Stand p l e R s m args below meth c B.U B.locs B.cells B.slots ∧ PostX ⟨T.setVm vm₁, locs, cells, slots⟩ (Value.ref b :: argsL).toArray q B ∧
      Steps p.tables e below (T.setTop g) ((B.U.setTop { g with stack := rest }).pushFrame (.throwing q))) := by
  obtain ⟨mk, methM, hnamed, hmethM, hstM, habM⟩ := Cond.instanceMethod_spec hinst
  obtain ⟨methM', cM, hmethM', -, -, -, -, -, -, hsigM⟩ := Cond.code_spec hnamed hcode
  cases hmethM.symm.trans hmethM'
  obtain ⟨c2, r2, m2, q1, q2, q3, q4, kP, hkP, hkPi⟩ := Cond.selects_spec hsel
  cases hcls.symm.trans q1
  cases (State.methodFound?_of_named hnamed hy).symm.trans q2
  cases hnamed.symm.trans q3
  have hselP : selectMethod e.platform s.vm cellB.cls mk = .method mk := by rw [Launch.admits_selectMethod X.admits]; exact q4
  obtain ⟨vm₁, X₁, hstep₁⟩ := X.invokevirtualNest hexec hown hlink hnamed hmethM hstM hkP hkPi hy (a := b) (cell := cellB) hcell
    (fun z h => by rw [h] at hobj; cases hobj) hselP hmethM habM hkP hkPi (g := g) hg (argsL := argsL) (rest := rest) (hlen _ hsigM) hstack hdg
  rcases hK m meth c ⟨T.setVm vm₁, locs, cells, slots⟩ { g with stack := rest } (.invokevirtual index) mk (Value.ref b :: argsL).toArray X₁ hg hsize hdg hW (X₁.named hnamed) (hpre vm₁ X₁.warmed) with ⟨v, B, X', hpost, hsteps⟩ | ⟨q, B, X', hpost, hsteps⟩
  · exact Or.inl ⟨v, vm₁, B, X₁.warmed, X', hpost, fun target h => hstep₁ _ fun acts => by rw [doInvoke_state]; exact hsteps.trans h⟩
  · exact Or.inr ⟨q, vm₁, B, X₁.warmed, X', hpost, hstep₁ _ fun acts => by rw [doInvoke_state]; exact hsteps⟩
theorem vx_callSN (X : Stand p l e R s m args below meth c T locs cells slots) (hexec : p.tables.exec = Jvm.exec) {own : String} {index : Nat} {host : String} {y : MethodName} {bytes : ByteArray} {maxL : Nat} {ret : Option FieldType}
    (hown : s.vm.findClass own = some m.cls) (hlink : (Cond.methodLinkNest own index y host).before args s = true) (hstat : (Cond.static y).before args s = true) (hinit : (Cond.initialized y.cls).before args s = true)
    (hcode : (Cond.code y bytes maxL ret).before args s = true) (hy : y.cls ≠ "java/lang/invoke/MethodHandle" ∧ y.cls ≠ "java/lang/invoke/VarHandle")
    {W : Nat} {Pre : Pt → Array Value → Prop} {Post : Pt → Array Value → Option Value → Pt → Prop} {PostX : Pt → Array Value → Addr → Pt → Prop} (hK : vx_Back l R p e below s args y 3 W Pre Post PostX)
    {g : JFrame} (hg : g.method = m) (hsize : g.locals.size = c.maxLocals) {argsL rest : List Value} (hlen : ∀ sig, parseMethodDescriptor y.desc = some sig → argsL.length = sig.parameters.length)
    (hstack : g.stack = argsL.reverse ++ rest) (hW : 2 * g.monitorRoom + (rest.map fun v => v.category).sum ≤ W) (hdg : decode c.code g.pc = .ok (.invokestatic index, 3))
    (hpre : ∀ vm₁, s.WarmedH vm₁ → Pre ⟨T.setVm vm₁, locs, cells, slots⟩ argsL.toArray) :
    (∃ (v : Option Value) (vm₁ : Vm) (B : Pt), s.WarmedH vm₁ ∧ Stand p l e R s m args below meth c B.U B.locs B.cells B.slots ∧ Post ⟨T.setVm vm₁, locs, cells, slots⟩ argsL.toArray v B ∧
      ∀ target, Steps p.tables e below (B.U.setTop { g with pc := g.pc + 3, stack := v.toList ++ rest }) target → Steps p.tables e below (T.setTop g) target) ∨
    (∃ (q : Addr) (vm₁ : Vm) (B : Pt), s.WarmedH vm₁ ∧ Stand p l e R s m args below meth c B.U B.locs B.cells B.slots ∧ PostX ⟨T.setVm vm₁, locs, cells, slots⟩ argsL.toArray q B ∧
      Steps p.tables e below (T.setTop g) ((B.U.setTop { g with stack := rest }).pushFrame (.throwing q))) := by
  obtain ⟨mk, hnamed⟩ := Cond.code_named hcode
  obtain ⟨methM, cM, hmethM, -, -, -, -, -, -, hsigM⟩ := Cond.code_spec hnamed hcode
  have hstatic : methM.isStatic = true := Cond.static_spec hnamed hmethM hstat
  obtain ⟨kP, hkP, -⟩ := className_of_methodNamed hnamed
  have hinitP : kP.init = .initialized := Cond.initialized_spec (findClass_of_methodNamed hnamed) hkP hinit
  obtain ⟨vm₁, X₁, hstep₁⟩ := X.invokestaticNest hexec hown hlink hnamed hmethM hstatic hkP hinitP hy (g := g) hg (argsL := argsL) (rest := rest) (hlen _ hsigM) hstack hdg
  rcases hK m meth c ⟨T.setVm vm₁, locs, cells, slots⟩ { g with stack := rest } (.invokestatic index) mk argsL.toArray X₁ hg hsize hdg hW (X₁.named hnamed) (hpre vm₁ X₁.warmed) with ⟨v, B, X', hpost, hsteps⟩ | ⟨q, B, X', hpost, hsteps⟩
  · exact Or.inl ⟨v, vm₁, B, X₁.warmed, X', hpost, fun target h => hstep₁ _ fun acts => by rw [doInvoke_state]; exact hsteps.trans h⟩
  · exact Or.inr ⟨q, vm₁, B, X₁.warmed, X', hpost, hstep₁ _ fun acts => by rw [doInvoke_state]; exact hsteps⟩
theorem vx_runVN {y : MethodName} {bytes cc : ByteArray} {maxL nL mc ms n index : Nat} {ret : Option FieldType} {ws : List Cond} {rm : Room} {Pc : Array Value → State → Prop} {Qc : Array Value → State → Outcome → State → Prop} {XC : String → State → State → Prop} {free : Addr → Prop} {Ts : List Cond} {own C host : String} {b : Addr} {As rest : List Value} {g : JFrame}
    (S : CallFix p m c cc nL s args Ts own) (hM : vx_Met l y ws rm Pc Qc XC mc ms free) (cw : va_CN R s args own index y host bytes maxL ret ws rm mc ms n ∧ (Cond.instanceMethod y).before args s = true ∧ (Cond.selects C y y).before args s = true) (hp : PreV s H C b Pc As)
    (hg : g.method = m) (hn : As.length = n) (hsize : g.locals.size = nL) (hstack : g.stack = As.reverse ++ .ref b :: rest) (hW : 2 * g.monitorRoom + (rest.map fun v => v.category).sum ≤ 8) (hdg : decode cc g.pc = .ok (.invokevirtual index, 3)) (hf : cells + mc ≤ R.cells ∧ slots + ms ≤ R.slots) :
    vx_Run p l e R s m args below meth c H locs cells slots mc ms g rest (Qc (Value.ref b :: As).toArray) XC free := by
  obtain ⟨⟨⟨hrc, hrs, hfr, hlo, hws, hcw⟩, hcode, hini, hy, hlen, hl⟩, hx1, hx2⟩ := cw
  have hK : vx_Back l R p e below s args y 3 8 (PreOf R mc ms Pc) (PostOf Qc mc ms free) (vx_Post XC mc ms free) := vx_back (bytes := bytes) (maxL := maxL) (ret := ret) hM hp.1 hrc hrs hfr hlo hws hcw (fun a' U hW => word_at hW (Or.inl (by first | rfl | simp [Cond.onTables, Cond.keeps, Cond.steady])) hini)
  obtain ⟨hx, hb, hml, ho, -⟩ := S
  obtain ⟨-, ⟨cellB, hcB, hoB, hclB⟩, hPc⟩ := hp
  intro T hT X
  rcases vx_callVN X hx (C := C) (bytes := bytes) (maxL := maxL) (ret := ret) ho hl hx1 hx2 hcode hy hK (by rw [hT]; exact hcB) hoB hclB hg (hsize.trans hml.symm) (argsL := As) (rest := rest) (fun sig h => hn.trans (hlen sig h)) hstack hW (by rw [hb]; exact hdg)
    (fun vm₁ hW₁ => ⟨hf.1, hf.2, hPc (T.setVm vm₁) hT hW₁⟩) with ⟨v, vm₁, ⟨U', l2, c2, s2⟩, hW₁, X', ⟨g', mk, t, L, e1, e2, hq, h1, hL, h2, h3⟩, st⟩ | ⟨q, vm₁, ⟨U', l2, c2, s2⟩, hW₁, X', ⟨g', mk, t, L, E, ce, e1, e2, hq, hce, hcv, hcl, h1, hL, h2, h3⟩, st⟩
  · dsimp only [Pt.U, Pt.locs, Pt.cells, Pt.slots] at X' e1 e2 h1 h2 h3 st
    subst h1; subst h2; subst h3
    exact Or.inl ⟨v, (T.setVm vm₁).calling g' mk (Value.ref b :: As).toArray, t, U', L, hT, X', hL, e1, e2, hq, st⟩
  · dsimp only [Pt.U, Pt.locs, Pt.cells, Pt.slots] at X' e1 e2 h1 h2 h3 st hcl
    subst h1; subst h2; subst h3
    exact Or.inr ⟨q, (T.setVm vm₁).calling g' mk (Value.ref b :: As).toArray, t, U', L, E, ce, hT, X', hL, e1, e2, hq, hce, hcv, vx_cls hW₁ hcl, st⟩
theorem vx_runSN {y : MethodName} {bytes cc : ByteArray} {maxL nL mc ms n index : Nat} {ret : Option FieldType} {ws : List Cond} {rm : Room} {Pc : Array Value → State → Prop} {Qc : Array Value → State → Outcome → State → Prop} {XC : String → State → State → Prop} {free : Addr → Prop} {Ts : List Cond} {own host : String} {As rest : List Value} {g : JFrame}
    (S : CallFix p m c cc nL s args Ts own) (hM : vx_Met l y ws rm Pc Qc XC mc ms free) (cw : va_CN R s args own index y host bytes maxL ret ws rm mc ms n ∧ (Cond.static y).before args s = true ∧ True) (hp : PreS s H Pc As)
    (hg : g.method = m) (hn : As.length = n) (hsize : g.locals.size = nL) (hstack : g.stack = As.reverse ++ rest) (hW : 2 * g.monitorRoom + (rest.map fun v => v.category).sum ≤ 8) (hdg : decode cc g.pc = .ok (.invokestatic index, 3)) (hf : cells + mc ≤ R.cells ∧ slots + ms ≤ R.slots) :
    vx_Run p l e R s m args below meth c H locs cells slots mc ms g rest (Qc As.toArray) XC free := by
  obtain ⟨⟨⟨hrc, hrs, hfr, hlo, hws, hcw⟩, hcode, hini, hy, hlen, hl⟩, hx1, hx2⟩ := cw
  have hK : vx_Back l R p e below s args y 3 8 (PreOf R mc ms Pc) (PostOf Qc mc ms free) (vx_Post XC mc ms free) := vx_back (bytes := bytes) (maxL := maxL) (ret := ret) hM hp.1 hrc hrs hfr hlo hws hcw (fun a' U hW => word_at hW (Or.inl (by first | rfl | simp [Cond.onTables, Cond.keeps, Cond.steady])) hini)
  obtain ⟨hx, hb, hml, ho, -⟩ := S
  have hPc := hp.2
  intro T hT X
  rcases vx_callSN X hx (bytes := bytes) (maxL := maxL) (ret := ret) ho hl hx1 hini hcode hy hK hg (hsize.trans hml.symm) (argsL := As) (rest := rest) (fun sig h => hn.trans (hlen sig h)) hstack hW (by rw [hb]; exact hdg)
    (fun vm₁ hW₁ => ⟨hf.1, hf.2, hPc (T.setVm vm₁) hT hW₁⟩) with ⟨v, vm₁, ⟨U', l2, c2, s2⟩, hW₁, X', ⟨g', mk, t, L, e1, e2, hq, h1, hL, h2, h3⟩, st⟩ | ⟨q, vm₁, ⟨U', l2, c2, s2⟩, hW₁, X', ⟨g', mk, t, L, E, ce, e1, e2, hq, hce, hcv, hcl, h1, hL, h2, h3⟩, st⟩
  · dsimp only [Pt.U, Pt.locs, Pt.cells, Pt.slots] at X' e1 e2 h1 h2 h3 st
    subst h1; subst h2; subst h3
    exact Or.inl ⟨v, (T.setVm vm₁).calling g' mk As.toArray, t, U', L, hT, X', hL, e1, e2, hq, st⟩
  · dsimp only [Pt.U, Pt.locs, Pt.cells, Pt.slots] at X' e1 e2 h1 h2 h3 st hcl
    subst h1; subst h2; subst h3
    exact Or.inr ⟨q, (T.setVm vm₁).calling g' mk As.toArray, t, U', L, E, ce, hT, X', hL, e1, e2, hq, hce, hcv, vx_cls hW₁ hcl, st⟩
end
end
section
/-! ===== BEGIN calls by an interface of methods that may throw (vx_callIF, vx_runF follow va_callIF, va_runF of this kit) ===== -/
section
variable {p : Program} {l : Launch} {e : Env} {R : Room} {s : State} {m : MethodId} {args : Array Value} {below : List Frame} {meth : Method} {c : Code} {H : Heap} {locs : List Loc} {cells slots : Nat} {Q : State → Prop}
variable {mc ms : Nat} {free : Addr → Prop} {A0 A1 : Nat → Prop} {H0 : Heap} {a : Array Value} {pc : Nat} {ls : Array Slot} {st0 rest : List Value}
def vx_Run5 (p : Program) (l : Launch) (e : Env) (R : Room) (s : State) (m : MethodId) (args : Array Value) (below : List Frame) (meth : Method) (c : Code) (H : Heap) (locs : List Loc) (cells slots mc ms : Nat) (g : JFrame) (rest : List Value) (Qa : State → Outcome → State → Prop) (XC : String → State → State → Prop) (free : Addr → Prop) : Prop :=
  ∀ T : State, T.heap = H → Stand p l e R s m args below meth c T locs cells slots →
    (∃ (v : Option Value) (st₀ t T' : State) (L : List Loc), st₀.heap = H ∧ Stand p l e R s m args below meth c T' (locs ++ L) (cells + mc) (slots + ms) ∧ (∀ q ∈ L, free q.base) ∧ T'.heap = t.heap ∧ T'.vm = t.vm ∧ Qa st₀ (.returned v) t ∧
      Goes p e below T g T' { g with pc := g.pc + 5, stack := v.toList ++ rest }) ∨
    (∃ (q : Addr) (st₀ t T' : State) (L : List Loc) (E : String) (ce : Cell), st₀.heap = H ∧ Stand p l e R s m args below meth c T' (locs ++ L) (cells + mc) (slots + ms) ∧ (∀ z ∈ L, free z.base) ∧ T'.heap = t.heap ∧ T'.vm = t.vm ∧ XC E st₀ t ∧ t.heap[q]? = some ce ∧ ce.vm = .none ∧ s.vm.findClass E = some ce.cls ∧
      Steps p.tables e below (T.setTop g) ((T'.setTop { g with stack := rest }).pushFrame (.throwing q)))
theorem vx_callIF {T : State} (X : Stand p l e R s m args below meth c T locs cells slots) (hexec : p.tables.exec = Jvm.exec) {own C : String} {index count : Nat} {x y : MethodName} {bytes : ByteArray} {maxL : Nat} {ret : Option FieldType}
    (hown : s.vm.findClass own = some m.cls) (hlink : (Cond.methodLink own index x).before args s = true) (hdecl : (Cond.declares x).before args s = true) (hface : (Cond.interfaceMethod x.cls x.cls x.name x.desc).before args s = true)
    (hsel : (Cond.selects C x y).before args s = true) (hinst : (Cond.instanceMethod y).before args s = true) (hpub : (Cond.publicMethod y).before args s = true) (hunh : (Cond.unhidden C x.name x.desc).before args s = true)
    (hcast : (Cond.castable C x.cls).before args s = true) (hcode : (Cond.code y bytes maxL ret).before args s = true) (hx : x.cls ≠ "java/lang/invoke/MethodHandle" ∧ x.cls ≠ "java/lang/invoke/VarHandle")
    {W9 : Nat} {Pre : Pt → Array Value → Prop} {Post : Pt → Array Value → Option Value → Pt → Prop} {PostX : Pt → Array Value → Addr → Pt → Prop} (hK : vx_Back l R p e below s args y 5 W9 Pre Post PostX)
    {b : Addr} {cellB : Cell} {kB : Class} (hcell : T.heap[b]? = some cellB) (hobj : cellB.vm.isStatics = false) (hcls : s.vm.findClass C = some cellB.cls) (hkB : s.vm.classes[cellB.cls]? = some kB)
    {g : JFrame} (hg : g.method = m) (hsize : g.locals.size = c.maxLocals) {argsL rest : List Value} (hlen : ∀ sig, parseMethodDescriptor x.desc = some sig → argsL.length = sig.parameters.length)
    (hstack : g.stack = argsL.reverse ++ .ref b :: rest) (hW : 2 * g.monitorRoom + (rest.map fun v => v.category).sum ≤ W9) (hdg : decode c.code g.pc = .ok (.invokeinterface index count, 5))
    (hpre : ∀ vm₁, s.WarmedH vm₁ → Pre ⟨T.setVm vm₁, locs, cells, slots⟩ (Value.ref b :: argsL).toArray) :
    (∃ (v : Option Value) (vm₁ : Vm) (B : Pt), s.WarmedH vm₁ ∧ Stand p l e R s m args below meth c B.U B.locs B.cells B.slots ∧ Post ⟨T.setVm vm₁, locs, cells, slots⟩ (Value.ref b :: argsL).toArray v B ∧
      ∀ target, Steps p.tables e below (B.U.setTop { g with pc := g.pc + 5, stack := v.toList ++ rest }) target → Steps p.tables e below (T.setTop g) target) ∨
    (∃ (q : Addr) (vm₁ : Vm) (B : Pt), s.WarmedH vm₁ ∧ Stand p l e R s m args below meth c B.U B.locs B.cells B.slots ∧ PostX ⟨T.setVm vm₁, locs, cells, slots⟩ (Value.ref b :: argsL).toArray q B ∧
      Steps p.tables e below (T.setTop g) ((B.U.setTop { g with stack := rest }).pushFrame (.throwing q))) := by
  obtain ⟨r0, r, hn, hrm, hstR, hsigR⟩ := Cond.declares_spec hdecl
  obtain ⟨cL, kL, r1, hcL, hkL, hiL, hfoundL, hn1⟩ := Cond.interfaceMethod_spec hface
  cases hn.symm.trans hn1
  have hr0cls : r0.cls = cL := Option.some.inj ((findClass_of_methodNamed hn).symm.trans hcL)
  obtain ⟨hnameR, hdescR⟩ := name_of_methodNamed hn hrm
  obtain ⟨mk, methM, hnamed, hmethM, -, habM⟩ := Cond.instanceMethod_spec hinst
  obtain ⟨c2, r2, m2, q1, q2, q3, q4, -⟩ := Cond.selects_spec hsel
  cases hcls.symm.trans q1
  cases hfoundL.symm.trans q2
  cases hnamed.symm.trans q3
  have hselP : selectMethod e.platform s.vm cellB.cls r0 = .method mk := by rw [Launch.admits_selectMethod X.admits]; exact q4
  have hpubM : hasFlag methM.accessFlags Acc.public_ = true := Cond.publicMethod_spec hnamed hmethM hpub
  have hway : ((cellB.cls :: s.vm.superclasses cellB.cls).any fun k => (declaredIn s.vm r.name r.desc k).any fun (_, z) => z.isPrivate || z.isStatic) = false := by
    rw [hnameR, hdescR]; exact Cond.unhidden_spec hcls hunh
  obtain ⟨c3, t3, w1, w2, w3⟩ := Cond.castable_spec hcast
  cases hcls.symm.trans w1
  cases hcL.symm.trans w2
  obtain ⟨vm₁, X₁, hstep₁⟩ := X.invokeinterface hexec hown hlink hn hrm hstR (by rw [hr0cls]; exact hkL) hiL hx (a := b) (cell := cellB) (kcell := kB) hcell
    (fun z h => by rw [h] at hobj; cases hobj) hkB (by rw [hr0cls]; exact w3) hselP hmethM hway hpubM habM (g := g) hg (argsL := argsL) (rest := rest) (hlen _ hsigR) hstack hdg
  rcases hK m meth c ⟨T.setVm vm₁, locs, cells, slots⟩ { g with stack := rest } (.invokeinterface index count) mk (Value.ref b :: argsL).toArray X₁ hg hsize hdg hW (X₁.named hnamed) (hpre vm₁ X₁.warmed) with ⟨v, B, X', hpost, hsteps⟩ | ⟨q, B, X', hpost, hsteps⟩
  · exact Or.inl ⟨v, vm₁, B, X₁.warmed, X', hpost, fun target h => hstep₁ _ fun acts => by rw [doInvoke_state]; exact hsteps.trans h⟩
  · exact Or.inr ⟨q, vm₁, B, X₁.warmed, X', hpost, hstep₁ _ fun acts => by rw [doInvoke_state]; exact hsteps⟩
theorem vx_runF {x y : MethodName} {bytes cc : ByteArray} {maxL nL mc ms n index count : Nat} {ret : Option FieldType} {ws : List Cond} {rm : Room} {Pc : Array Value → State → Prop} {Qc : Array Value → State → Outcome → State → Prop} {XC : String → State → State → Prop} {free : Addr → Prop} {Ts : List Cond} {own C : String} {cC : ClassId} {b : Addr} {As rest : List Value} {g : JFrame}
    (hat : ClassAt s C cC) (S : CallFix p m c cc nL s args Ts own) (hM : vx_Met l y ws rm Pc Qc XC mc ms free) (cw : va_CI R s args own C index x y bytes maxL ret ws rm mc ms n) (hp : PreV s H C b Pc As)
    (hg : g.method = m) (hn : As.length = n) (hsize : g.locals.size = nL) (hstack : g.stack = As.reverse ++ .ref b :: rest) (hW : 2 * g.monitorRoom + (rest.map fun v => v.category).sum ≤ 8) (hdg : decode cc g.pc = .ok (.invokeinterface index count, 5)) (hf : cells + mc ≤ R.cells ∧ slots + ms ≤ R.slots) :
    vx_Run5 p l e R s m args below meth c H locs cells slots mc ms g rest (Qc (Value.ref b :: As).toArray) XC free := by
  obtain ⟨hrc, hrs, hfr, hlo, hws, hcw⟩ := cw.back
  have hini := cw.init
  have hK : vx_Back l R p e below s args y 5 8 (PreOf R mc ms Pc) (PostOf Qc mc ms free) (vx_Post XC mc ms free) := vx_back (bytes := bytes) (maxL := maxL) (ret := ret) hM hp.1 hrc hrs hfr hlo hws hcw (fun a' U hW => word_at hW (Or.inl (by first | rfl | simp [Cond.onTables, Cond.keeps, Cond.steady])) hini)
  obtain ⟨hx, hb, hml, ho, -⟩ := S
  obtain ⟨-, ⟨cellB, hcB, hoB, hclB⟩, hPc⟩ := hp
  obtain ⟨hfc, kB, hkB, -⟩ := hat
  cases hfc.symm.trans hclB
  intro T hT X
  rcases vx_callIF X hx (C := C) (bytes := bytes) (maxL := maxL) (ret := ret) ho cw.link cw.decl cw.face cw.sel cw.inst cw.pub cw.unh cw.cast cw.code cw.notMH hK (by rw [hT]; exact hcB) hoB hclB hkB hg (hsize.trans hml.symm) (argsL := As) (rest := rest) (fun sig h => hn.trans (cw.len sig h)) hstack hW (by rw [hb]; exact hdg)
    (fun vm₁ hW₁ => ⟨hf.1, hf.2, hPc (T.setVm vm₁) hT hW₁⟩) with ⟨v, vm₁, ⟨U', l2, c2, s2⟩, hW₁, X', ⟨g', mk, t, L, e1, e2, hq, h1, hL, h2, h3⟩, st⟩ | ⟨q, vm₁, ⟨U', l2, c2, s2⟩, hW₁, X', ⟨g', mk, t, L, E, ce, e1, e2, hq, hce, hcv, hcl, h1, hL, h2, h3⟩, st⟩
  · dsimp only [Pt.U, Pt.locs, Pt.cells, Pt.slots] at X' e1 e2 h1 h2 h3 st
    subst h1; subst h2; subst h3
    exact Or.inl ⟨v, (T.setVm vm₁).calling g' mk (Value.ref b :: As).toArray, t, U', L, hT, X', hL, e1, e2, hq, st⟩
  · dsimp only [Pt.U, Pt.locs, Pt.cells, Pt.slots] at X' e1 e2 h1 h2 h3 st hcl
    subst h1; subst h2; subst h3
    exact Or.inr ⟨q, (T.setVm vm₁).calling g' mk (Value.ref b :: As).toArray, t, U', L, E, ce, hT, X', hL, e1, e2, hq, hce, hcv, vx_cls hW₁ hcl, st⟩
end
end
section
theorem g_ivx_0 {i : Instr} {ix : Nat} (h : g_ivx i = some (0, ix)) : i = .invokestatic ix := by
  cases i <;> first | (cases h; rfl) | cases h
theorem g_ivx_1 {i : Instr} {ix : Nat} (h : g_ivx i = some (1, ix)) : i = .invokevirtual ix := by
  cases i <;> first | (cases h; rfl) | cases h
theorem g_ivx_2 {i : Instr} {ix : Nat} (h : g_ivx i = some (2, ix)) : i = .invokespecial ix := by
  cases i <;> first | (cases h; rfl) | cases h
theorem g_inv_stack {st : List Value} {na : Nat} (ρ : Nat → Nat) : st.map (g_tr ρ) = (((st.take na).reverse).map (g_tr ρ)).reverse ++ (st.drop na).map (g_tr ρ) := by
  rw [← List.map_reverse, List.reverse_reverse, ← List.map_append, List.take_append_drop]
theorem g_all_drop {st : List Value} {na n : Nat} (h : st.all (g_ok n) = true) : (st.drop na).all (g_ok n) = true :=
  List.all_eq_true.mpr fun v hv => List.all_eq_true.mp h v (List.mem_of_mem_drop hv)
set_option maxHeartbeats 4000000 in
theorem g_callrun {xs : Nat → Int32} {L k : Nat} (hk : g_OK xs L k) {p : Program} {l : Launch} {e : Env} {R : Room} {s : State} {m : MethodId} {args : Array Value} {below : List Frame} {meth : Method} {cc : Code} {D : va_G} {cA : Nat → ClassId} {A : Nat → Prop} {b : Nat × Nat} {y : Nat} (F : g_FX p l R s m meth cc D cA A b L xs y) {i : Instr} {n pc : Nat} {lv : gL} {st : List Value} {M : gM} {c d : Nat} {ρ : Nat → Nat} {H : Heap} {locs : List Loc} {ls : Array Slot} {z : Nat} {as rest : List Value} {r : Option Value ⊕ String} {M1 : gM} {mc ms : Nat}
    (hI : gI y pc = some (i, n)) (hv : g_inv y i st lv M = some (z, as, rest)) (hz : g_run xs L k z 0 (lv_args 0 as) [] M 0 0 = some (r, M1, mc, ms)) (hR : g_RH D cA A b s ρ M H locs) (hl : lv_has ls (gLo y) (g_trL ρ lv)) (hc : c + mc ≤ R.cells) (hd : d + ms ≤ R.slots) :
    lv.all (fun q => g_ok M.1 q.2) = true ∧ rest.all (g_ok M.1) = true ∧ vx_Run p l e R s m args below meth cc H locs c d mc ms (F0 m pc ls (st.map (g_tr ρ))) (rest.map (g_tr ρ)) (fun st o t => (∃ v, o = .returned v ∧ g_Qv D cA b (va_A (g_wd cA ρ M) H.size) M.1 ρ r M1 v t) ∧ va_F (va_A (g_wd cA ρ M) H.size) st t) (fun E st t => g_Xv D cA b (va_A (g_wd cA ρ M) H.size) M.1 ρ r M1 E t ∧ va_F (va_A (g_wd cA ρ M) H.size) st t) (va_A (g_wd cA ρ M) H.size) := by
  obtain ⟨hx, hb, hml, hrt, hlocks, hnm, hown, hfr, hlo, hA, htab, hst, hE, hcA⟩ := F
  obtain ⟨hts, hE2⟩ := id hE
  obtain ⟨hP, hD, hS, ⟨tys, hK, hT⟩, hWF, h0, h1⟩ := id hR
  have hd3 := (gI_ok hI).2
  unfold g_inv at hv
  split at hv
  · cases hv
  · next md ix hix =>
    split at hv
    · cases hv
    · next z' na kd ci rs hf =>
      obtain ⟨j, j1, j2, j3, host⟩ := rs
      split at hv
      · next hc0 =>
        obtain ⟨hkd, hzl, hna, hFr, hLo, hhw, hlvok, hstok⟩ := hc0
        have hw := g_look gv_iv hf
        have e0 : ¬ kd = 100 := by omega
        have e1 : ¬ kd = 101 := by omega
        have e2 : ¬ kd = 102 := by omega
        have e3 : ¬ kd = 103 := by omega
        have e4 : ¬ kd = 104 := by omega
        simp only [gp_iv, if_neg e0, if_neg e1, if_neg e2, if_neg e3, if_neg e4, Bool.and_eq_true, decide_eq_true_eq] at hw
        obtain ⟨hzlt, hsig, hlk, hkind⟩ := hw
        have hme := gv_me hzlt
        simp only [gp_me, Bool.and_eq_true, Bool.or_eq_true, decide_eq_true_eq] at hme
        obtain ⟨hme1, hme2, hme3, hme4, hme5, hme6⟩ := hme
        have hcw : lw_tbl[gm_wc.getD z' 0]? = some (g_word z') ∧ g_gw (g_word z') = true := by
          rcases hme1 with hme1 | hme1
          · exact absurd hme1 hzl
          · exact gp_w_ok hme1
        have hcode : (g_word z').before args s = true := g_w hts hcw
        have hini : (Cond.initialized (gN z').cls).before args s = true := g_w hts (gp_w_ok hme2)
        have hws : ∀ w ∈ [g_word z'], ∀ (a' : Array Value) (U : State), s.WarmedH U.vm → w.before a' U = true := fun w hw a' U hW => by
          cases List.mem_singleton.mp hw
          exact g_gw_moved hW hcw.2 hcode
        have hsg : ∀ sig, parseMethodDescriptor (gN z').desc = some sig → na = sig.parameters.length := fun sig h => by
          rw [h] at hsig
          exact (Option.some.inj hsig).symm
        have hfree : ∀ q, va_A (g_wd cA ρ M) H.size q → A q := fun q h => by
          rcases h with ⟨kk, ee, h⟩ | h
          · exact hD.2 kk (q, ee) h
          · exact hA q (Nat.le_trans hS.1 h)
        have hpre : ∀ (as' : List Value) (U : State), U.heap = H → s.WarmedH U.vm → g_Pc D cA b L xs H.size ρ M as' (as'.map (g_tr ρ)).toArray U := fun as' U hU hW =>
          ⟨rfl, by rw [hU], by rw [hU]; exact hP, hD.weaken (fun _ _ _ _ => trivial), ⟨tys, va_K.moved hW.alike hK, hT⟩, g_EX_mv hW (fun q hq hnA => by rw [hU]; exact hS.2.1 q hq hnA) (by rw [hU]; exact hS.1) hfree hE, fun t ty c0 h1 h2 => hcA t ty c0 h1 (va_RA.moved hW.alike.symm h2)⟩
        have hfr2 : gF z' + 1 ≤ R.frames := Nat.le_trans hFr hfr
        have hlo2 : 8 + (gLo z' + 11) + gW z' ≤ R.locals := Nat.le_trans hLo hlo
        have hlen : (((st.take na).reverse).map (g_tr ρ)).length = na := by rw [List.length_map, List.length_reverse, List.length_take, Nat.min_eq_left hna]
        have hml2 : ls.size = gLo y := hl.1
        split at hv
        · next hmd =>
          split at hv
          · next hs =>
            cases hv
            obtain ⟨hk3, hsl, hcat⟩ := hs
            refine ⟨hlvok, g_all_drop hstok, ?_⟩
            subst hmd
            cases g_ivx_0 hix
            have hdg := hd3 (Nat.succ_ne_zero _)
            have met := g_met hk (sz := H.size) (D := D) (cA := cA) (ρ := ρ) hz hzlt hzl hsl hWF h0 h1 hst
            rw [if_pos hk3] at hkind
            simp only [Bool.and_eq_true, decide_eq_true_eq] at hkind
            have hstatic : (Cond.static (gN z)).before args s = true := g_w hts (gp_w_ok hkind.1)
            have hW8 := lv_room (pc := pc) (m := m) (ls := ls) (rest := st.map (g_tr ρ)) (st := (st.drop na).map (g_tr ρ)) (by rw [g_cats]; exact hcat)
            rcases hk3 with rfl | rfl | rfl
            · have hw0 : g_word z = .code (gN z) (gC z) (gLo z) (gR z) := by unfold g_word; rw [hhw]; rfl
              rw [hw0] at met hcode hws
              cases host with
              | some hh => cases hkind.2
              | none => exact vx_runS (Ts := []) ⟨hx, hb, hml, hown, fun _ h => by cases h⟩ met ⟨⟨rfl, rfl, hfr2, hlo2, hws, List.mem_singleton.mpr rfl, hcode, hini, hme4, hsg, g_w hts (gp_w_ok hlk)⟩, hstatic⟩ ⟨g_blind, hpre _⟩ rfl hlen hml2 (g_inv_stack ρ) hW8 hdg ⟨hc, hd⟩
            · have hw0 : g_word z = .code (gN z) (gC z) (gLo z) (gR z) := by unfold g_word; rw [hhw]; rfl
              rw [hw0] at met hcode hws
              cases host with
              | none => cases hkind.2
              | some hh => exact vx_runSN (Ts := []) ⟨hx, hb, hml, hown, fun _ h => by cases h⟩ met ⟨⟨⟨rfl, rfl, hfr2, hlo2, hws, List.mem_singleton.mpr rfl⟩, hcode, hini, hme4, hsg, g_w hts (gp_w_ok hlk)⟩, hstatic, trivial⟩ ⟨g_blind, hpre _⟩ rfl hlen hml2 (g_inv_stack ρ) hW8 hdg ⟨hc, hd⟩
            · have hw0 : g_word z = .codeWith (gN z) (gC z) (gLo z) (gR z) (gH z) := by unfold g_word; rw [hhw]; rfl
              rw [hw0] at met hcode hws
              cases host with
              | some hh => cases hkind.2
              | none => exact vx_runSX (Ts := []) ⟨hx, hb, hml, hown, fun _ h => by cases h⟩ met ⟨⟨rfl, rfl, hfr2, hlo2, hws, List.mem_singleton.mpr rfl⟩, hcode, hini, hme4, hsg, g_w hts (gp_w_ok hlk), hstatic⟩ ⟨g_blind, hpre _⟩ rfl hlen hml2 (g_inv_stack ρ) hW8 hdg ⟨hc, hd⟩
          · cases hv
        · next hmd =>
          split at hv
          · next a rest' hdrop =>
            split at hv
            · next hs =>
              cases hv
              obtain ⟨hsl, hcat, hs⟩ := hs
              have hrok : rest.all (g_ok M.1) = true := by
                have h9 := g_all_drop (na := na) hstok
                rw [hdrop] at h9
                simp only [List.all_cons, Bool.and_eq_true] at h9
                exact h9.2
              refine ⟨hlvok, hrok, ?_⟩
              have met := g_met hk (sz := H.size) (D := D) (cA := cA) (ρ := ρ) hz hzlt hzl hsl hWF h0 h1 hst
              have hstk : st.map (g_tr ρ) = (((st.take na).reverse).map (g_tr ρ)).reverse ++ .ref (ρ a) :: rest.map (g_tr ρ) := by
                have h9 := g_inv_stack (st := st) (na := na) ρ
                rw [hdrop] at h9
                exact h9
              have hW8 := lv_room (pc := pc) (m := m) (ls := ls) (rest := st.map (g_tr ρ)) (st := rest.map (g_tr ρ)) (by rw [g_cats]; exact hcat)
              rcases hs with ⟨hm1, hk1, hrc⟩ | ⟨hm2, hk2⟩
              · subst hm1
                cases g_ivx_1 hix
                have hdg := hd3 (Nat.succ_ne_zero _)
                have hk3 : ¬ (kd = 0 ∨ kd = 3 ∨ kd = 6) := by omega
                have hk6 : ¬ kd = 6 := by omega
                rw [if_neg hk3, if_pos hk1] at hkind
                simp only [Bool.and_eq_true, decide_eq_true_eq] at hkind
                obtain ⟨w1, w2, hho, hci, hcn⟩ := hkind
                have hw0 : g_word z = .code (gN z) (gC z) (gLo z) (gR z) := by unfold g_word; rw [hhw, decide_eq_false hk6]; rfl
                rw [hw0] at met hcode hws
                have hrecv : ∃ cell : Cell, H[ρ a]? = some cell ∧ cell.vm.isStatics = false ∧ s.vm.findClass (gN z).cls = some cell.cls := by
                  unfold g_rcv at hrc
                  split at hrc
                  · next cj fs he =>
                    cases of_decide_eq_true hrc
                    obtain ⟨ha, he⟩ := g_rd_i he
                    obtain ⟨q0, hq, -⟩ := g_at (cA := cA) (ρ := ρ) ha he
                    rw [← hcn]
                    exact va_recv hK hP (g_cl_at hci) hq
                  · cases hrc
                rcases hk1 with rfl | rfl
                · cases host with
                  | some hh => cases hho
                  | none => exact vx_runV (Ts := []) ⟨hx, hb, hml, hown, fun _ h => by cases h⟩ met ⟨⟨rfl, rfl, hfr2, hlo2, hws, List.mem_singleton.mpr rfl, hcode, hini, hme4, hsg, g_w hts (gp_w_ok hlk)⟩, g_w hts (gp_w_ok w1), g_w hts (gp_w_ok w2)⟩ ⟨g_blind, hrecv, hpre (.ref a :: (st.take na).reverse)⟩ rfl hlen hml2 hstk hW8 hdg ⟨hc, hd⟩
                · cases host with
                  | none => cases hho
                  | some hh => exact vx_runVN (Ts := []) ⟨hx, hb, hml, hown, fun _ h => by cases h⟩ met ⟨⟨⟨rfl, rfl, hfr2, hlo2, hws, List.mem_singleton.mpr rfl⟩, hcode, hini, hme4, hsg, g_w hts (gp_w_ok hlk)⟩, g_w hts (gp_w_ok w1), g_w hts (gp_w_ok w2)⟩ ⟨g_blind, hrecv, hpre (.ref a :: (st.take na).reverse)⟩ rfl hlen hml2 hstk hW8 hdg ⟨hc, hd⟩
              · subst hm2
                cases g_ivx_2 hix
                have hdg := hd3 (Nat.succ_ne_zero _)
                have hk3 : ¬ (kd = 0 ∨ kd = 3 ∨ kd = 6) := by omega
                have hk4 : ¬ (kd = 1 ∨ kd = 4) := by omega
                have hk6 : ¬ kd = 6 := by omega
                rw [if_neg hk3, if_neg hk4, if_pos hk2] at hkind
                simp only [Bool.and_eq_true, decide_eq_true_eq] at hkind
                obtain ⟨w1, hho, hin, hrn⟩ := hkind
                have hw0 : g_word z = .code (gN z) (gC z) (gLo z) none := by unfold g_word; rw [hhw, decide_eq_false hk6, hrn]; rfl
                rw [hw0] at met hcode hws
                rcases hk2 with rfl | rfl
                · cases host with
                  | some hh => cases hho
                  | none => exact vx_runI (Ts := []) ⟨hx, hb, hml, hown, fun _ h => by cases h⟩ met ⟨⟨rfl, rfl, hfr2, hlo2, hws, List.mem_singleton.mpr rfl, hcode, hini, hme4, hsg, g_w hts (gp_w_ok hlk)⟩, hin, g_w hts (gp_w_ok w1)⟩ ⟨g_blind, hpre (.ref a :: (st.take na).reverse)⟩ rfl hlen hml2 hstk hW8 hdg ⟨hc, hd⟩
                · cases host with
                  | none => cases hho
                  | some hh => exact vx_runIN (Ts := []) ⟨hx, hb, hml, hown, fun _ h => by cases h⟩ met ⟨⟨⟨rfl, rfl, hfr2, hlo2, hws, List.mem_singleton.mpr rfl⟩, hcode, hini, hme4, hsg, g_w hts (gp_w_ok hlk)⟩, hin, g_w hts (gp_w_ok w1)⟩ ⟨g_blind, hpre (.ref a :: (st.take na).reverse)⟩ rfl hlen hml2 hstk hW8 hdg ⟨hc, hd⟩
            · cases hv
          · cases hv
      · cases hv
/-- behind a call that took nn bytes -/
def g_RunK (nn : Nat) (p : Program) (l : Launch) (e : Env) (R : Room) (s : State) (m : MethodId) (args : Array Value) (below : List Frame) (meth : Method) (c : Code) (H : Heap) (locs : List Loc) (cells slots mc ms : Nat) (g : JFrame) (rest : List Value) (Qa : State → Outcome → State → Prop) (XC : String → State → State → Prop) (free : Addr → Prop) : Prop :=
  ∀ T : State, T.heap = H → Stand p l e R s m args below meth c T locs cells slots →
    (∃ (v : Option Value) (st₀ t T' : State) (L : List Loc), st₀.heap = H ∧ Stand p l e R s m args below meth c T' (locs ++ L) (cells + mc) (slots + ms) ∧ (∀ q ∈ L, free q.base) ∧ T'.heap = t.heap ∧ T'.vm = t.vm ∧ Qa st₀ (.returned v) t ∧
      Goes p e below T g T' { g with pc := g.pc + nn, stack := v.toList ++ rest }) ∨
    (∃ (q : Addr) (st₀ t T' : State) (L : List Loc) (E : String) (ce : Cell), st₀.heap = H ∧ Stand p l e R s m args below meth c T' (locs ++ L) (cells + mc) (slots + ms) ∧ (∀ z ∈ L, free z.base) ∧ T'.heap = t.heap ∧ T'.vm = t.vm ∧ XC E st₀ t ∧ t.heap[q]? = some ce ∧ ce.vm = .none ∧ s.vm.findClass E = some ce.cls ∧
      Steps p.tables e below (T.setTop g) ((T'.setTop { g with stack := rest }).pushFrame (.throwing q)))
set_option maxHeartbeats 4000000 in
/-- a call by an interface -/
theorem g_callrunI {xs : Nat → Int32} {L k : Nat} (hk : g_OK xs L k) {p : Program} {l : Launch} {e : Env} {R : Room} {s : State} {m : MethodId} {args : Array Value} {below : List Frame} {meth : Method} {cc : Code} {D : va_G} {cA : Nat → ClassId} {A : Nat → Prop} {b : Nat × Nat} {y : Nat} (F : g_FX p l R s m meth cc D cA A b L xs y) {i : Instr} {n pc : Nat} {lv : gL} {st : List Value} {M : gM} {c d : Nat} {ρ : Nat → Nat} {H : Heap} {locs : List Loc} {ls : Array Slot} {z : Nat} {as rest : List Value} {r : Option Value ⊕ String} {M1 : gM} {mc ms : Nat}
    (hI : gI y pc = some (i, n)) (hv : g_inf y i st lv M = some (z, as, rest)) (hz : g_run xs L k z 0 (lv_args 0 as) [] M 0 0 = some (r, M1, mc, ms)) (hR : g_RH D cA A b s ρ M H locs) (hl : lv_has ls (gLo y) (g_trL ρ lv)) (hc : c + mc ≤ R.cells) (hd : d + ms ≤ R.slots) :
    lv.all (fun q => g_ok M.1 q.2) = true ∧ rest.all (g_ok M.1) = true ∧ vx_Run5 p l e R s m args below meth cc H locs c d mc ms (F0 m pc ls (st.map (g_tr ρ))) (rest.map (g_tr ρ)) (fun st o t => (∃ v, o = .returned v ∧ g_Qv D cA b (va_A (g_wd cA ρ M) H.size) M.1 ρ r M1 v t) ∧ va_F (va_A (g_wd cA ρ M) H.size) st t) (fun E st t => g_Xv D cA b (va_A (g_wd cA ρ M) H.size) M.1 ρ r M1 E t ∧ va_F (va_A (g_wd cA ρ M) H.size) st t) (va_A (g_wd cA ρ M) H.size) := by
  obtain ⟨hx, hb, hml, hrt, hlocks, hnm, hown, hfr, hlo, hA, htab, hst, hE, hcA⟩ := F
  obtain ⟨hts, -, -, -, -, -, -, -, -, hFw⟩ := id hE
  obtain ⟨hP, hD, hS, ⟨tys, hK, hT⟩, hWF, h0, h1⟩ := id hR
  have hd3 := (gI_ok hI).2
  unfold g_inf at hv
  split at hv
  · next ix cnt =>
    split at hv
    · next fi jj hf =>
      split at hv
      · next a rest' =>
        split at hv
        · next hc0 =>
          cases hv
          obtain ⟨hrc, hzl, hFr, hLo, hlo1, hcat, hlvok, hstok⟩ := hc0
          have hw := g_look (P := gp_if) gv_if hf
          simp only [gp_if, Bool.and_eq_true, decide_eq_true_eq] at hw
          obtain ⟨hfi, hlk⟩ := hw
          have hq : g_if fi ∈ g_ifs := g_getD_mem hfi
          have hwq := List.all_eq_true.mp gv_ifs _ hq
          have hfw := hFw _ hq
          generalize g_if fi = q9 at hrc hzl hFr hLo hlo1 hlk hq hwq hfw hz
          obtain ⟨ci, z, x, jd, jf, js, ji, jp, ju, jc⟩ := q9
          dsimp only at hrc hzl hFr hLo hlo1 hlk hfw hz ⊢
          simp only [gp_ifs, Bool.and_eq_true, decide_eq_true_eq] at hwq
          obtain ⟨hci, hzlt, hmh, hsig, hhw, wd, wf, ws, wi, wp, wu, wc⟩ := hwq
          have hme := gv_me hzlt
          simp only [gp_me, Bool.and_eq_true, Bool.or_eq_true, decide_eq_true_eq] at hme
          obtain ⟨hme1, hme2, hme3, hme4, hme5, hme6⟩ := hme
          have hcw : lw_tbl[gm_wc.getD z 0]? = some (g_word z) ∧ g_gw (g_word z) = true := by
            rcases hme1 with hme1 | hme1
            · exact absurd hme1 hzl
            · exact gp_w_ok hme1
          have hw0 : g_word z = .code (gN z) (gC z) (gLo z) (gR z) := by unfold g_word; rw [hhw]; rfl
          have hcode : (g_word z).before args s = true := g_w hts hcw
          have hini : (Cond.initialized (gN z).cls).before args s = true := g_w hts (gp_w_ok hme2)
          have hws : ∀ w ∈ [g_word z], ∀ (a' : Array Value) (U : State), s.WarmedH U.vm → w.before a' U = true := fun w hw a' U hW => by
            cases List.mem_singleton.mp hw
            exact g_gw_moved hW hcw.2 hcode
          have hsg : ∀ sig, parseMethodDescriptor x.desc = some sig → 0 = sig.parameters.length := fun sig h => by
            rw [h] at hsig
            exact (Option.some.inj hsig).symm
          have hfree : ∀ q, va_A (g_wd cA ρ M) H.size q → A q := fun q h => by
            rcases h with ⟨kk, ee, h⟩ | h
            · exact hD.2 kk (q, ee) h
            · exact hA q (Nat.le_trans hS.1 h)
          have hpre : ∀ (as' : List Value) (U : State), U.heap = H → s.WarmedH U.vm → g_Pc D cA b L xs H.size ρ M as' (as'.map (g_tr ρ)).toArray U := fun as' U hU hW =>
            ⟨rfl, by rw [hU], by rw [hU]; exact hP, hD.weaken (fun _ _ _ _ => trivial), ⟨tys, va_K.moved hW.alike hK, hT⟩, g_EX_mv hW (fun q hq hnA => by rw [hU]; exact hS.2.1 q hq hnA) (by rw [hU]; exact hS.1) hfree hE, fun t ty c0 h1 h2 => hcA t ty c0 h1 (va_RA.moved hW.alike.symm h2)⟩
          have hrok : rest.all (g_ok M.1) = true := by
            simp only [List.all_cons, Bool.and_eq_true] at hstok
            exact hstok.2
          have met := g_met hk (sz := H.size) (D := D) (cA := cA) (ρ := ρ) hz hzlt hzl (show (lg_sl [Value.ref a]).length ≤ gLo z from hlo1) hWF h0 h1 hst
          have hW8 := lv_room (pc := pc) (m := m) (ls := ls) (rest := (.ref (ρ a) :: rest.map (g_tr ρ) : List Value)) (st := rest.map (g_tr ρ)) (by rw [g_cats]; exact hcat)
          have hrecv : ∃ cell : Cell, H[ρ a]? = some cell ∧ cell.vm.isStatics = false ∧ s.vm.findClass (g_cl ci).1 = some cell.cls := by
            unfold g_rcv at hrc
            split at hrc
            · next cj fs he =>
              cases of_decide_eq_true hrc
              obtain ⟨ha, he⟩ := g_rd_i he
              obtain ⟨q0, hq, -⟩ := g_at (cA := cA) (ρ := ρ) ha he
              exact va_recv hK hP (g_cl_at hci) hq
            · cases hrc
          have hat : ClassAt s (g_cl ci).1 (D.1 ci) := (hK.1 ci _ (g_cl_at hci)).2
          refine ⟨hlvok, hrok, ?_⟩
          rw [hw0] at met hcode hws
          exact vx_runF (Ts := []) (nL := gLo y) (n := 0) (C := (g_cl ci).1) (x := x) (y := gN z) (b := ρ a) (As := []) hat ⟨hx, hb, hml, hown, fun _ h => by cases h⟩ met ⟨⟨rfl, rfl, Nat.le_trans hFr hfr, Nat.le_trans hLo hlo, hws, List.mem_singleton.mpr rfl⟩, g_w hts (gp_w_ok hlk), va_any rfl hfw.1, va_any rfl hfw.2.1, g_w hts (gp_w_ok ws), g_w hts (gp_w_ok wi), va_any rfl hfw.2.2.1, va_any rfl hfw.2.2.2.1, va_any rfl hfw.2.2.2.2, hini, hcode, hmh, hsg⟩ ⟨g_blind, hrecv, hpre [.ref a]⟩ rfl rfl hl.1 rfl hW8 (hd3 (Nat.succ_ne_zero _)) ⟨hc, hd⟩
        · cases hv
      · cases hv
    · cases hv
  · cases hv
theorem g_callrunK {xs : Nat → Int32} {L k : Nat} (hk : g_OK xs L k) {p : Program} {l : Launch} {e : Env} {R : Room} {s : State} {m : MethodId} {args : Array Value} {below : List Frame} {meth : Method} {cc : Code} {D : va_G} {cA : Nat → ClassId} {A : Nat → Prop} {b : Nat × Nat} {y : Nat} (F : g_FX p l R s m meth cc D cA A b L xs y) {i : Instr} {n pc : Nat} {lv : gL} {st : List Value} {M : gM} {c d : Nat} {ρ : Nat → Nat} {H : Heap} {locs : List Loc} {ls : Array Slot} {z nn : Nat} {as rest : List Value} {r : Option Value ⊕ String} {M1 : gM} {mc ms : Nat}
    (hI : gI y pc = some (i, n)) (hv : g_cal y i st lv M = some (z, as, rest, nn)) (hz : g_run xs L k z 0 (lv_args 0 as) [] M 0 0 = some (r, M1, mc, ms)) (hR : g_RH D cA A b s ρ M H locs) (hl : lv_has ls (gLo y) (g_trL ρ lv)) (hc : c + mc ≤ R.cells) (hd : d + ms ≤ R.slots) :
    lv.all (fun q => g_ok M.1 q.2) = true ∧ rest.all (g_ok M.1) = true ∧ g_RunK nn p l e R s m args below meth cc H locs c d mc ms (F0 m pc ls (st.map (g_tr ρ))) (rest.map (g_tr ρ)) (fun st o t => (∃ v, o = .returned v ∧ g_Qv D cA b (va_A (g_wd cA ρ M) H.size) M.1 ρ r M1 v t) ∧ va_F (va_A (g_wd cA ρ M) H.size) st t) (fun E st t => g_Xv D cA b (va_A (g_wd cA ρ M) H.size) M.1 ρ r M1 E t ∧ va_F (va_A (g_wd cA ρ M) H.size) st t) (va_A (g_wd cA ρ M) H.size) := by
  unfold g_cal at hv
  split at hv
  · next z1 as1 rest1 h1 =>
    cases hv
    exact g_callrun hk F hI h1 hz hR hl hc hd
  · split at hv
    · next z1 as1 rest1 h1 =>
      cases hv
      exact g_callrunI hk F hI h1 hz hR hl hc hd
    · cases hv
end
section
section GC
variable {p : Program} {l : Launch} {e : Env} {R : Room} {s : State} {m : MethodId} {args : Array Value} {below : List Frame} {meth : Method} {cc : Code} {Q : State → Prop}
/-- behind a call: it has returned, or thrown -/
theorem g_callG {H : Heap} {locs : List Loc} {cells slots mc ms : Nat} {A0 A1 : Nat → Prop} {pc : Nat} {ls : Array Slot} {st0 rest : List Value} {nn : Nat} {Qv : Option Value → State → Prop} {Xv : String → State → Prop}
    (hr : g_RunK nn p l e R s m args below meth cc H locs cells slots mc ms (F0 m pc ls st0) rest (fun st o t => (∃ v, o = .returned v ∧ Qv v t) ∧ va_F A1 st t) (fun E st t => Xv E t ∧ va_F A1 st t) A1) (hS : va_S A0 s.heap H locs) (hA : ∀ q, A1 q → A0 q)
    (kx : ∀ (E : String) (ce : Cell) (q9 : Addr) (t : State) (H1 : Heap) (locs1 : List Loc), t.heap = H1 → s.vm.Alike t.vm → Xv E t → va_S A0 s.heap H1 locs1 → H1[q9]? = some ce → ce.vm = .none → s.vm.findClass E = some ce.cls → vx_W p l e R s m args below meth cc H1 locs1 (cells + mc) (slots + ms) Q (F0 m pc ls rest) q9)
    (kk : ∀ (v : Option Value) (t : State) (H1 : Heap) (locs1 : List Loc), t.heap = H1 → s.vm.Alike t.vm → Qv v t → va_S A0 s.heap H1 locs1 → W p l e R s m args below meth cc H1 locs1 (cells + mc) (slots + ms) Q (F0 m (pc + nn) ls (v.toList ++ rest))) : W p l e R s m args below meth cc H locs cells slots Q (F0 m pc ls st0) := by
  intro T hT X
  rcases hr T hT X with ⟨v, st₀, t, T', L, h0, X', hL, e1, e2, ⟨⟨v2, hv, hb⟩, hF⟩, st⟩ | ⟨q, st₀, t, T', L, E, ce, h0, X', hL, e1, e2, ⟨hb, hF⟩, hce, hcv, hcl, st⟩
  · cases hv
    obtain ⟨k1, k2, k3⟩ := vx_keep h0 e1 hS (fun q _ h => hA q h) hA hL hF
    obtain ⟨t2, a1, b1⟩ := kk v t T'.heap (locs ++ L) e1.symm (by rw [← e2]; exact X'.warmed.alike) hb k3 T' rfl X'
    exact ⟨t2, st t2 a1, b1⟩
  · obtain ⟨k1, k2, k3⟩ := vx_keep h0 e1 hS (fun q _ h => hA q h) hA hL hF
    obtain ⟨t2, a1, b1⟩ := kx E ce q t T'.heap (locs ++ L) e1.symm (by rw [← e2]; exact X'.warmed.alike) hb k3 (by rw [e1]; exact hce) hcv hcl T' rfl X'
    exact ⟨t2, st.trans a1, b1⟩
end GC
theorem g_frees {D : va_G} {cA : Nat → ClassId} {A : Nat → Prop} {b : Nat × Nat} {s : State} {ρ : Nat → Nat} {M : gM} {H : Heap} {locs : List Loc} (hA : ∀ q, s.heap.size ≤ q → A q) (hR : g_RH D cA A b s ρ M H locs) : ∀ q, va_A (g_wd cA ρ M) H.size q → A q := fun q h => by
  obtain ⟨hP, hD, hS, -⟩ := hR
  rcases h with ⟨kk, ee, h⟩ | h
  · exact hD.2 kk (q, ee) h
  · exact hA q (Nat.le_trans hS.1 h)
theorem g_after {D : va_G} {cA : Nat → ClassId} {A : Nat → Prop} {b : Nat × Nat} {s t : State} {ρ ρ1 : Nat → Nat} {M M1 : gM} {H H1 : Heap} {locs locs1 : List Loc} (hA : ∀ q, s.heap.size ≤ q → A q) (hR : g_RH D cA A b s ρ M H locs) (hn : M.1 ≤ M1.1) (ht : t.heap = H1) (hal : s.vm.Alike t.vm) (hN : g_EN D cA b (va_A (g_wd cA ρ M) H.size) ρ1 M1 t) (hS1 : va_S A s.heap H1 locs1) : g_RH D cA A b s ρ1 M1 H1 locs1 := by
  obtain ⟨hP1, hD1, ⟨tys, hK1, hT1⟩, hWF1, h01⟩ := hN
  have hfr := g_frees hA hR
  obtain ⟨-, -, -, -, -, -, h1⟩ := hR
  exact ⟨by rw [← ht]; exact hP1, hD1.weaken (fun k q hk hq => hfr _ hq), hS1, ⟨tys, va_K.moved hal.symm hK1, hT1⟩, hWF1, h01, Nat.lt_of_lt_of_le h1 hn⟩
set_option maxHeartbeats 4000000 in
/-- THE MACHINE DOES WHAT THE PURE RUN ANSWERS -/
theorem g_run_ok (xs : Nat → Int32) (L : Nat) : ∀ k, g_OK xs L k
  | 0 => fun y pc lv st M c d r M1 c1 d1 h => by cases h
  | k + 1 => fun y pc lv st M c d r M1 c1 d1 h => by
    have ih := g_run_ok xs L k
    unfold g_run at h
    cases hT : gThr y pc with
    | some v =>
      rw [hT] at h
      dsimp only at h
      split at h
      · next hc =>
        cases h
        refine ⟨Nat.le_refl _, Nat.le_succ _, Nat.le_add_right _ _, fun p l e R s m args below meth cc Q D cA A b F hRc hRd n0 ρ0 Fin ρ H locs ls hn hag hR hl => ?_⟩
        exact Fin.2.1 v.1 ρ H locs ls pc v (st.map (g_tr ρ)) c d rfl hag hR (hl.1.trans F.2.2.1.symm) hT rfl rfl rfl (by rw [g_cats]; exact hc.1) hc.2.1 hc.2.2.1 hc.2.2.2
      · cases h
    | none =>
      rw [hT] at h
      dsimp only at h
      cases hI : gI y pc with
      | none => rw [hI] at h; cases h
      | some iv =>
        obtain ⟨i, n⟩ := iv
        rw [hI] at h
        dsimp only at h
        cases hr : g_ret y i st with
        | some v =>
          rw [hr] at h
          cases h
          exact ⟨Nat.le_refl _, Nat.le_refl _, Nat.le_refl _, fun p l e R s m args below meth cc Q D cA A b F hRc hRd n0 ρ0 Fin ρ H locs ls hn hag hR hl => Fin.1 v ρ H locs ls pc i n st rfl hag hR hI hr⟩
        | none =>
          rw [hr] at h
          dsimp only at h
          cases hv : g_cal y i st lv M with
          | none =>
            rw [hv] at h
            dsimp only at h
            cases hs : g_stp xs L y i pc lv st M c d with
            | none => rw [hs] at h; cases h
            | some q =>
              rw [hs] at h
              dsimp only at h
              split at h
              · next hm =>
                obtain ⟨a1, a2, a3, a4⟩ := ih _ _ _ _ _ _ _ _ _ _ _ h
                refine ⟨Nat.le_trans hm.1 a1, Nat.le_trans hm.2.1 a2, Nat.le_trans hm.2.2 a3, fun p l e R s m args below meth cc Q D cA A b F hRc hRd n0 ρ0 Fin ρ H locs ls hn hag hR hl => ?_⟩
                exact (g_stp_ok F hI hs).2.2.2 (Nat.le_trans a2 hRc) (Nat.le_trans a3 hRd) (fun ρ1 H1 locs1 ls1 hag1 hR1 hl1 => a4 p l e R s m args below meth cc Q D cA A b F hRc hRd n0 ρ0 Fin ρ1 H1 locs1 ls1 (Nat.le_trans hn hm.1) (hag.trans hn hag1) hR1 hl1) hR hl
              · cases h
          | some zv =>
            obtain ⟨z, as, rest, nn⟩ := zv
            rw [hv] at h
            dsimp only at h
            cases hz : g_run xs L k z 0 (lv_args 0 as) [] M 0 0 with
            | none => rw [hz] at h; cases h
            | some o =>
              obtain ⟨r2, M2, mc, ms⟩ := o
              rw [hz] at h
              have b1 := (ih _ _ _ _ _ _ _ _ _ _ _ hz).1
              cases r2 with
              | inl v =>
                dsimp only at h
                obtain ⟨a1, a2, a3, a4⟩ := ih _ _ _ _ _ _ _ _ _ _ _ h
                refine ⟨Nat.le_trans b1 a1, Nat.le_trans (Nat.le_add_right _ _) a2, Nat.le_trans (Nat.le_add_right _ _) a3, fun p l e R s m args below meth cc Q D cA A b F hRc hRd n0 ρ0 Fin ρ H locs ls hn hag hR hl => ?_⟩
                obtain ⟨hlv, hrs, hrun⟩ := g_callrunK ih F hI hv hz hR hl (Nat.le_trans a2 hRc) (Nat.le_trans a3 hRd) (args := args) (e := e) (below := below)
                have hA := F.2.2.2.2.2.2.2.2.2.1
                refine g_callG hrun hR.2.2.1 (g_frees hA hR) (fun E ce q9 t H1 locs1 ht hal hX hS1 hce hcv hcl => ?_) (fun v2 t H1 locs1 ht hal hV hS1 => ?_)
                · obtain ⟨ρ1, hx, -⟩ := hX
                  cases hx
                · obtain ⟨v0, ρ1, hx, rfl, hag1, hN⟩ := hV
                  cases hx
                  have k9 := a4 p l e R s m args below meth cc Q D cA A b F hRc hRd n0 ρ0 Fin ρ1 H1 locs1 ls (Nat.le_trans hn b1) (hag.trans hn hag1) (g_after hA hR b1 ht hal hN hS1) (by rw [g_trL_ag hag1 hlv]; exact hl)
                  rw [List.map_append, g_trs_ag hag1 hrs] at k9
                  cases v <;> exact k9
              | inr E =>
                dsimp only at h
                split at h
                · next hh hfd =>
                  obtain ⟨a1, a2, a3, a4⟩ := ih _ _ _ _ _ _ _ _ _ _ _ h
                  refine ⟨Nat.le_trans b1 (Nat.le_trans (Nat.le_succ _) a1), Nat.le_trans (Nat.le_add_right _ _) a2, Nat.le_trans (Nat.le_add_right _ _) a3, fun p l e R s m args below meth cc Q D cA A b F hRc hRd n0 ρ0 Fin ρ H locs ls hn hag hR hl => ?_⟩
                  obtain ⟨hlv, hrs, hrun⟩ := g_callrunK ih F hI hv hz hR hl (Nat.le_trans a2 hRc) (Nat.le_trans a3 hRd) (args := args) (e := e) (below := below)
                  have hA := F.2.2.2.2.2.2.2.2.2.1
                  refine g_callG hrun hR.2.2.1 (g_frees hA hR) (fun E2 ce q9 t H1 locs1 ht hal hX hS1 hce hcv hcl => ?_) (fun v2 t H1 locs1 ht hal hV hS1 => ?_)
                  · obtain ⟨ρ1, hx, hag1, hN⟩ := hX
                    cases hx
                    obtain ⟨pre, x, suf, j, e1, e2, e3, e4, e5, e6, e7⟩ := g_find_some hfd
                    have hR1 := g_after hA hR b1 ht hal hN hS1
                    obtain ⟨hx0, hb0, hml0, hrt0, hlocks0, hnm0, hown0, hfr0, hlo0, hA0, htab0, hst0, ⟨hts0, hX0, hZ10, hZ20, hstr0, hAO0, hNc0, hZ30, hT30, hFw0⟩, hcA0⟩ := id F
                    obtain ⟨hP1, hD1, hSS1, ⟨tys1, hK1, hT1⟩, hWF1, h01, h11⟩ := id hR1
                    have hdk : g_wd cA (va_up ρ1 M2.1 q9) (M2.1 + 1, va_up M2.2 M2.1 none) = g_wd cA ρ1 M2 := g_dark hWF1 q9
                    have hag2 : g_ag M2.1 ρ1 (va_up ρ1 M2.1 q9) := g_ag.up
                    have hlk : (Cond.classLink (gOwn y) x.catchType E).before args s = true := g_w hts0 (gp_w_ok (g_look gv_ct e5))
                    have hcs : (Cond.castable E E).before args s = true := by
                      obtain ⟨u, hu, hu2⟩ := List.any_eq_true.mp e6
                      simp only [Bool.and_eq_true, beq_iff_eq] at hu2
                      have h9 := gp_w_ok (List.all_eq_true.mp gv_cast u hu)
                      rw [hu2.1, hu2.2] at h9
                      exact g_w hts0 h9
                    have hyl : y ≠ g_ylaw := fun h9 => by
                      rw [h9] at hfd
                      cases hfd
                    refine vx_catch hown0 pre x suf (by rw [htab0 hyl]; exact e1) (fun z hz => ?_) e2 e3 hlk hcs hce hcv hcl ?_
                    · rcases e7 z hz with h9 | ⟨h9, nm, j2, h10, h11⟩
                      · exact Or.inl h9
                      · exact Or.inr ⟨h9, nm, g_w hts0 (gp_w_ok (g_look gv_ct h10)), hNc0 _ h11⟩
                    · have k9 := a4 p l e R s m args below meth cc Q D cA A b F hRc hRd n0 ρ0 Fin (va_up ρ1 M2.1 q9) H1 locs1 ls (Nat.le_trans hn (Nat.le_trans b1 (Nat.le_succ _))) ((hag.trans hn hag1).trans (Nat.le_trans hn b1) hag2)
                        ⟨by rw [hdk]; exact hP1, by rw [hdk]; exact hD1, hSS1, ⟨tys1, hK1, by
                          have h9 := g_TY_new (more := []) hT1 (e := none) (fun t x hx => by cases hx)
                          rw [List.append_nil] at h9
                          exact h9⟩, g_WF_new hWF1 (fun e' he' => by cases he'), by rw [← h01]; exact g_b2 hag2 h11, Nat.lt_succ_of_lt h11⟩
                        (by rw [g_trL_ag (hag1.trans b1 hag2) hlv]; exact hl)
                      have hq9 : va_up ρ1 M2.1 q9 M2.1 = q9 := by unfold va_up; rw [if_pos rfl]
                      rw [e4]
                      rw [← hq9]
                      rw [hq9]
                      have e99 : ([.ref M2.1] : List Value).map (g_tr (va_up ρ1 M2.1 q9)) = [.ref q9] := by
                        show [Value.ref (va_up ρ1 M2.1 q9 M2.1)] = _
                        rw [hq9]
                      rw [e99] at k9
                      exact k9
                  · obtain ⟨v0, ρ1, hx, -⟩ := hV
                    cases hx
                · next hfd =>
                  cases h
                  refine ⟨b1, Nat.le_add_right _ _, Nat.le_add_right _ _, fun p l e R s m args below meth cc Q D cA A b F hRc hRd n0 ρ0 Fin ρ H locs ls hn hag hR hl => ?_⟩
                  obtain ⟨hlv, hrs, hrun⟩ := g_callrunK ih F hI hv hz hR hl hRc hRd (args := args) (e := e) (below := below)
                  have hA := F.2.2.2.2.2.2.2.2.2.1
                  refine g_callG hrun hR.2.2.1 (g_frees hA hR) (fun E2 ce q9 t H1 locs1 ht hal hX hS1 hce hcv hcl => ?_) (fun v2 t H1 locs1 ht hal hV hS1 => ?_)
                  · obtain ⟨ρ1, hx, hag1, hN⟩ := hX
                    cases hx
                    exact Fin.2.2 E ρ1 H1 locs1 ls pc ce q9 _ rfl (hag.trans hn hag1) (g_after hA hR b1 ht hal hN hS1) hfd hce hcv hcl
                  · obtain ⟨v0, ρ1, hx, -⟩ := hV
                    cases hx
                · cases h
end
section
/-! THE CLAIM OUT OF ONE WALK OF THE LAW'S BODY. Your part is whole_start (and what it stands on); all else here is the same for every law, but numbers. -/
def R_law : String := "FlyTowerLaw"
def lw_P (b : Addr) (xs : List Int32) (args : Array Value) (s : State) : Prop := args = #[.ref b] ∧ s.IntsAt b xs ∧ xs.length ≤ 6 ∧ (Jvm.Cond.and given_1 narrow_1).before args s = true
/-- what a walk over the start with the record d0 says of its end, said of the start itself -/
theorem lw_closed {s t : State} {o : Outcome} {d0 : Drawn} {L : List Loc} {k n : Nat} (hd0 : s.drawn.sameBut d0 lw_cs) (hv : ∃ v, o = .returned v) (hW : (s.setDrawn d0).WarmedH t.vm) (hs : (s.setDrawn d0).sameButNew ({ t with vm := s.vm } : State) L k n) : State.butDraws s t lw_cs (fun t1 => Framed s o t1 L k n) := by
  have h2 : t.drawn = d0 := congrArg State.drawn hs.1
  refine ⟨⟨hv, hW, State.sameButNew.setDrawn hs s.drawn⟩, ?_, by decide⟩
  rw [h2]
  exact hd0
def lw_Q (_ : Array Value) (s : State) (o : Outcome) (t : State) : Prop := o = .returned (some (.int 1)) ∧ State.butDraws s t lw_cs (fun t1 => Framed s o t1 [] 722355 6935171)
def lw_Z (below : List Frame) (a : Array Value) (s : State) : State → Prop := fun t => ∃ o, t.status = .running ∧ Ended t below o ∧ lw_Q a s o t
/-- the law's own end, with 1 on the stack, nothing written that was there before, its room as the claim has it; d0: the record of draws at this point (at the entry s.drawn: begin with 'refine W.base ?_' and 'have hd0 := Drawn.sameBut.refl s.drawn lw_cs') -/
theorem lw_ret {p : Program} {l : Launch} {e : Env} {s : State} {m : MethodId} {below : List Frame} {meth : Method} {c : Code} {b : Nat} {d0 : Drawn} (hd0 : s.drawn.sameBut d0 lw_cs) (hx : p.tables.exec = Jvm.exec) (hb : c.code = code) (hr : meth.sig.returnType = ret) (hlocks : meth.locks = false) {pc : Nat} {H : Heap} {ls : Array Slot} (hdg : decode code pc = .ok (.ireturn, 1)) : W p l e room_1 (s.setDrawn d0) m #[Value.ref b] below meth c H [] 722355 6935171 (lw_Z below #[Value.ref b] s) (F0 m pc ls [.int 1]) := by
  intro T hT X
  obtain ⟨fs, hret, hrun, hended, hW, hframe⟩ := X.leave (v := some (.int 1)) (hlocks := hlocks) (fun h => by rw [hr] at h; cases h)
  have hmeth' : T.vm.method? m = some meth := X.method'
  refine ⟨T.setFrames fs, ?_, .returned (some (.int 1)), hrun, hended, rfl, lw_closed hd0 ⟨_, rfl⟩ hW hframe⟩
  jvm_step X.here [X.here.top, hx, hb, hdg, hmeth', hr, ret, narrow_b1]
  (try refine ⟨rfl, ?_⟩); (try refine ⟨rfl, ?_⟩)
  first | (intro acts; rw [hret _ acts rfl rfl rfl]) | rw [hret _ _ rfl rfl rfl]
  exact Steps.refl _
/-- what holds at the law's entry: the machine, the code, the tables' words (any of lw_tbl by 'hts w (by decide +kernel)'), the script of L ints xs at the cell b, what the Statement gives of the start (any of its parts by flat_of_before) -/
def lw_At (p : Program) (s : State) (m : MethodId) (meth : Method) (c : Code) (b L : Nat) (xs : Nat → Int32) : Prop :=
  p.tables.exec = Jvm.exec ∧ c.code = code ∧ meth.sig.returnType = ret ∧ c.maxLocals = 9 ∧ s.vm.findClass R_law = some m.cls ∧ (∀ w ∈ lw_tbl, w.before #[Value.ref b] s = true) ∧ va_X b L xs s s.heap ∧ b < s.heap.size ∧ meth.locks = false ∧ (Jvm.Cond.and given_1 narrow_1).before #[Value.ref b] s = true
end
section
def g_fl1 : List Cond := flatC (Jvm.Cond.and given_1 narrow_1)
def g_exs : List (String × Nat) := g_fl1.filterMap (fun w => match w with
  | .exactly (.string o j) c => if c = "java/lang/String" then some (o, j) else none
  | _ => none)
def gl_strs : List (String × Nat) := [("FlyTower$Rig", 91), ("FlyTower", 277), ("FlyTower$Rig", 86), ("FlyTower", 235), ("FlyTower", 331), ("FlyTower", 237), ("FlyTower$Cue", 31), ("FlyTower", 249), ("FlyTower", 286), ("FlyTower", 292), ("FlyTower", 32), ("FlyTower", 43), ("FlyTower", 62), ("FlyTower", 64), ("FlyTower", 66), ("FlyTower", 71), ("FlyTower", 82), ("FlyTower", 87), ("FlyTower", 106), ("FlyTower", 108), ("FlyTower", 110), ("FlyTower", 115), ("FlyTower", 120), ("FlyTower", 126), ("FlyTower", 146), ("FlyTower", 162), ("FlyTower", 189), ("FlyTower", 336), ("FlyTower", 171), ("FlyTower", 176), ("FlyTower", 178), ("FlyTower", 180), ("FlyTower", 334), ("FlyTower", 210), ("FlyTower", 215)]
set_option maxRecDepth 100000 in
theorem gl_strs_eq : g_exs = gl_strs := by decide +kernel
theorem gl_strs_ok {args : Array Value} {s : State} (hgv : (Jvm.Cond.and given_1 narrow_1).before args s = true) {q : String × Nat} (h : q ∈ gl_strs) : (Cond.exactly (.string q.1 q.2) "java/lang/String").before args s = true := by
  rw [← gl_strs_eq] at h
  obtain ⟨w, hw, h2⟩ := List.mem_filterMap.mp h
  split at h2
  · split at h2
    · next hc =>
      cases h2
      have h3 := flat_of_before _ hgv _ hw
      rw [hc] at h3
      exact h3
    · cases h2
  · cases h2
def gx_P (y : Nat) (v : String × Nat × Nat × Nat × String × Bool) : Bool := gl_strs.any (fun u => decide (u = (gOwn y, v.2.2.1))) && lw_tbl.any (fun w => match w with
  | .stringRef o k t => decide (o = gOwn y ∧ k = v.2.2.1 ∧ t = v.2.2.2.2.1)
  | _ => false)
set_option maxRecDepth 100000 in
theorem gx_T : (List.range gm_T.length).all (fun y => (gm_T.getD y []).all (fun e => gx_P y e.2)) = true := by decide +kernel
set_option maxRecDepth 100000 in
theorem gx_nc : g_nc.all (fun q => g_fl1.any (fun w => decide (w = .not (.castable q.1 q.2)))) = true := by decide +kernel
set_option maxRecDepth 100000 in
theorem gx_u : (g_fl1.any (fun w => decide (w = .isRef (.static Bundle.tN "UNASSIGNED_STACK" Bundle.steD))) && g_fl1.any (fun w => decide (w = .isRef (.static Bundle.tN "SUPPRESSED_SENTINEL" Bundle.listD)))) = true := by decide +kernel
set_option maxRecDepth 100000 in
theorem gx_l : (lw_tbl.any (fun w => decide (w = .laysStatic Bundle.tN "UNASSIGNED_STACK" Bundle.steD)) && (lw_tbl.any (fun w => decide (w = .laysStatic Bundle.tN "SUPPRESSED_SENTINEL" Bundle.listD)) && lw_tbl.any (fun w => decide (w = .initialized Bundle.tN)))) = true := by decide +kernel
set_option maxRecDepth 100000 in
theorem gx_ao : g_tys.all (fun ty => match ty with
  | .object C => lw_tbl.any (fun w => decide (w = .arrayOver (.object C)))
  | _ => true) = true := by decide +kernel
set_option maxRecDepth 100000 in
theorem gx_in : vwCl.all (fun q => lw_tbl.any (fun w => match w with
  | .instantiable C _ => decide (C = q.1)
  | _ => false)) = true := by decide +kernel
theorem g_any {P : Cond → Bool} {l : List Cond} {w : Cond} (h : l.any (fun w2 => decide (w2 = w)) = true) : w ∈ l := by
  obtain ⟨w2, hm, h2⟩ := List.any_eq_true.mp h
  cases of_decide_eq_true h2
  exact hm
theorem g_law_C : gC g_ylaw = code := rfl
theorem g_law_L : gLo g_ylaw = 9 := by decide +kernel
theorem g_law_R : gR g_ylaw = ret := rfl
theorem g_law_O : gOwn g_ylaw = R_law := by decide +kernel
theorem g_law_N : (gN g_ylaw).name = "<init>" → False := by decide +kernel
set_option maxRecDepth 100000 in
theorem gx_Z : (g_fl1.any (fun w => decide (w = .arrayOf (.static gn_AL gn_ED gn_dO) (.object "java/lang/Object"))) && g_fl1.any (fun w => decide (w = .eq (.length (.static gn_AL gn_ED gn_dO)) (.int 0)))) = true := by decide +kernel
set_option maxRecDepth 100000 in
theorem gx_Zl : (lw_tbl.any (fun w => decide (w = .laysStatic gn_AL gn_ED gn_dO)) && lw_tbl.any (fun w => decide (w = .initialized gn_AL))) = true := by decide +kernel
theorem gp_e_ok {j : Nat} {w : Cond} (h : gp_e j w = true) : w ∈ lw_tbl := List.mem_of_getElem? (of_decide_eq_true h)
set_option maxHeartbeats 4000000 in
/-- FROM THE LAW'S ENTRY: what the pure run answers, the machine comes to -/
theorem g_start {p : Program} {e : Env} {s : State} {m : MethodId} {below : List Frame} {meth : Method} {c : Code} (l : Launch) (hflags : l.flags = flags0) {b L : Nat} {xs : Nat → Int32} (C0 : lw_At p s m meth c b L xs) {k : Nat} {M1 : gM} {c1 d1 : Nat}
    (h : g_run xs L k g_ylaw 0 [(0, .ref 0)] [] (2, fun _ => none) 0 0 = some (.inl (some (.int 1)), M1, c1, d1)) (hc : c1 ≤ room_1.cells) (hd : d1 ≤ room_1.slots) (hf : gF g_ylaw ≤ room_1.frames) (hw : gW g_ylaw ≤ room_1.locals) :
    W p l e room_1 s m #[Value.ref b] below meth c s.heap [] 0 0 (lw_Z below #[Value.ref b] s) (entryFrame m ([Value.ref b] : List Value).toArray 9) := by
  obtain ⟨hx, hb, hr, hml, hown, hts, hX, hbl, hlocks, hgv⟩ := C0
  have hd0 := Drawn.sameBut.refl s.drawn lw_cs
  refine W.base ?_
  have hflat := flat_of_before _ hgv
  have hWr : s.WarmedH (s.setDrawn s.drawn).vm := State.WarmedH.refl s
  have hal := hWr.alike
  have hA : ∀ q : Nat, s.heap.size ≤ q → (fun q : Nat => s.heap.size ≤ q) q := fun _ h => h
  have hnA : ∀ a : Nat, a < s.heap.size → ¬ (fun q : Nat => s.heap.size ≤ q) a := fun a ha h => absurd ha (Nat.not_lt.mpr h)
  have gl := gx_l
  simp only [Bool.and_eq_true] at gl
  obtain ⟨l1, l2, l3⟩ := gl
  have gu := gx_u
  simp only [Bool.and_eq_true] at gu
  have gz := gx_Z
  simp only [Bool.and_eq_true] at gz
  have gzl := gx_Zl
  simp only [Bool.and_eq_true] at gzl
  obtain ⟨b1, hb1, hT1⟩ := va_Tof (args := #[Value.ref b]) (s := s) (N := 0) (f := fun _ => .null) (A := fun q : Nat => s.heap.size ≤ q) (by decide) (hflat _ (g_any (P := fun _ => true) gz.1)) (va_eqt (hflat _ (g_any (P := fun _ => true) gz.2))) (fun j hj => absurd hj (Nat.not_lt_zero j)) hnA
  have hZ1 := va_Zof (A := fun q : Nat => s.heap.size ≤ q) (hts _ (g_any (P := fun _ => true) gzl.1)) (hts _ (g_any (P := fun _ => true) gzl.2)) hb1 hnA
  have hEX : g_EX (fun q : Nat => s.heap.size ≤ q) (b, b1) L xs s := by
    refine ⟨fun w hw hg => g_gw_moved (State.WarmedH.refl s) hg (hts w hw), ⟨hX, hbl, hnA b hbl⟩, vx_Zqof (hts _ (g_any (P := fun _ => true) l1)) (hts _ (g_any (P := fun _ => true) l3)) (hflat _ (g_any (P := fun _ => true) gu.1)) hnA, vx_Zqof (hts _ (g_any (P := fun _ => true) l2)) (hts _ (g_any (P := fun _ => true) l3)) (hflat _ (g_any (P := fun _ => true) gu.2)) hnA, fun y pc v hv => ?_, fun t C hC => ?_, fun q hq => ?_, hZ1, hT1, fun q hq => ?_⟩
    · have h1 := g_look (P := fun y _ v => gx_P y v) gx_T hv
      unfold gx_P at h1
      simp only [Bool.and_eq_true] at h1
      obtain ⟨h1, h2⟩ := h1
      obtain ⟨u, hu, h3⟩ := List.any_eq_true.mp h1
      have h3 := of_decide_eq_true h3
      obtain ⟨w, hw2, h4⟩ := List.any_eq_true.mp h2
      split at h4
      · next o k2 t2 =>
        obtain ⟨e1, e2, e3⟩ := of_decide_eq_true h4
        have hex := gl_strs_ok hgv hu
        rw [h3] at hex
        obtain ⟨a, c9, cA9, kA9, q1, -⟩ := Cond.exactly_spec (args := #[Value.ref b]) (first := s) (o := none) (s := s) (idx := []) (t := .string (gOwn y) v.2.2.1) (cls := "java/lang/String") hex
        have hsr := hts _ hw2
        rw [e1, e2, e3] at hsr
        exact ⟨a, vk_R.same (u := s) rfl (vk_R.of hsr q1 |> fun z => ⟨(by simpa [Cond.before, Cond.holds, Cond.value] using z.1), z.2⟩)⟩
      · cases h4
    · have h1 := List.all_eq_true.mp gx_ao _ (List.mem_of_getElem? hC)
      exact va_AO.of (hts _ (g_any (P := fun _ => true) h1))
    · have h1 := List.all_eq_true.mp gx_nc q hq
      exact va_Nc.of (hflat _ (g_any (P := fun _ => true) h1))
    · have h1 := List.all_eq_true.mp gv_ifs q hq
      obtain ⟨ci, z, x, jd, jf, js, ji, jp, ju, jc⟩ := q
      simp only [gp_ifs, Bool.and_eq_true, decide_eq_true_eq] at h1
      obtain ⟨-, -, -, -, -, wd, wf, ws, wi, wp, wu, wc⟩ := h1
      exact va_Fw.of (hts _ (List.mem_of_getElem? (gp_w_ok wd).1)) (hts _ (gp_e_ok wf)) (hts _ (gp_e_ok wp)) (hts _ (gp_e_ok wu)) (hts _ (List.mem_of_getElem? (gp_w_ok wc).1))
  have hEX2 : g_EX (fun q : Nat => s.heap.size ≤ q) (b, b1) L xs (s.setDrawn s.drawn) := g_EX_mv (s := s) (U := s.setDrawn s.drawn) hWr (fun _ _ _ => rfl) (Nat.le_refl _) (fun _ h => h) hEX
  have hDx : ∀ ci : Nat, ∃ q : ClassId × (Nat → Nat), ∀ v, vwCl[ci]? = some v → u_Kn (s.setDrawn s.drawn) v.1 v.2.1 v.2.2 q.1 q.2 := fun ci => by
    cases hv : vwCl[ci]? with
    | none => exact ⟨(default, fun _ => 0), fun v h => by cases h⟩
    | some v =>
      have hci : ci < vwCl.length := (List.getElem?_eq_some_iff.mp hv).1
      obtain ⟨w, hw2, h2⟩ := List.any_eq_true.mp (List.all_eq_true.mp gx_in v (List.mem_of_getElem? hv))
      split at h2
      · next C n =>
        have hC := of_decide_eq_true h2
        subst hC
        cases (g_cl_at hci).symm.trans hv
        have hok := (g_cl_ok hci).1
        obtain ⟨cC, iS, hk⟩ := u_known (args := #[Value.ref b]) (ws := u_ws (g_cl ci).1 (g_cl ci).2.1 (g_cl ci).2.2) (s := s.setDrawn s.drawn) (fun w hw => g_gw_moved hWr (hok w hw).2 (hts w (hok w hw).1)) (fun w h => h) (g_gw_moved (args' := #[Value.ref b]) hWr rfl (hts _ hw2))
        exact ⟨(cC, iS), fun v' h => by cases h; exact hk⟩
      · cases h2
  have hK : va_K (fun ci => (Classical.choose (hDx ci)).1, fun ci => (Classical.choose (hDx ci)).2) vwCl [] (s.setDrawn s.drawn) := ⟨fun ci v hv => Classical.choose_spec (hDx ci) v hv, fun k q hk => by cases hk⟩
  generalize ((fun ci => (Classical.choose (hDx ci)).1, fun ci => (Classical.choose (hDx ci)).2) : va_G) = D at hK
  obtain ⟨cA, hcA⟩ : ∃ cA : Nat → ClassId, ∀ (t : Nat) (ty : FieldType) (c0 : ClassId), g_tys[t]? = some ty → va_RA (s.setDrawn s.drawn) c0 ty → c0 = cA t := ⟨fun t => ((s.setDrawn s.drawn).vm.findClass ("[" ++ ((g_tys[t]?).getD .int).toString)).getD default, fun t ty c0 ht h => by
    have h1 : (s.setDrawn s.drawn).vm.findClass ("[" ++ ty.toString) = some c0 := by
      cases ty with
      | object C => obtain ⟨-, -, -, -, -, h4⟩ := h; exact h4
      | _ => exact h
    simp only [ht, Option.getD_some, h1]⟩
  have F : g_FX p l room_1 (s.setDrawn s.drawn) m meth c D cA (fun q : Nat => s.heap.size ≤ q) (b, b1) L xs g_ylaw :=
    ⟨hx, by rw [g_law_C]; exact hb, by rw [g_law_L]; exact hml, by rw [g_law_R]; exact hr, hlocks, fun h9 => (g_law_N h9).elim, by rw [g_law_O]; exact hown, hf, hw, hA, fun h9 => absurd rfl h9, by unfold Launch.stackTraces; rw [hflags]; decide, hEX2, hcA⟩
  have hw0 : g_wd cA (va_up (fun _ => b1) 0 b) (2, fun _ => none) = [] := rfl
  have hP0 : va_P D vwCl (g_wd cA (va_up (fun _ => b1) 0 b) (2, fun _ => none)) s.heap := by
    rw [hw0]
    intro k q hk
    cases hk
  have hD0 : va_D (fun q : Nat => s.heap.size ≤ q) (g_wd cA (va_up (fun _ => b1) 0 b) (2, fun _ => none)) := by
    rw [hw0]
    exact ⟨fun i j p q hi _ _ => (by cases hi), fun k q hk => (by cases hk)⟩
  have hRH : g_RH D cA (fun q : Nat => s.heap.size ≤ q) (b, b1) (s.setDrawn s.drawn) (va_up (fun _ => b1) 0 b) (2, fun _ => none) s.heap [] :=
    ⟨hP0, hD0, va_S.rf, ⟨[], hK, fun k t x hk hx => (by cases hx)⟩, fun k hk e he => (by cases he), rfl, Nat.lt_succ_self 1⟩
  have hls := lv_entry ([.ref b] : List Value) (n := 9) (Nat.le_of_ble_eq_true rfl)
  rw [lg_entry_eq]
  refine (g_run_ok xs L k g_ylaw 0 [(0, .ref 0)] [] (2, fun _ => none) 0 0 (.inl (some (.int 1))) M1 c1 d1 h).2.2.2 p l e room_1 (s.setDrawn s.drawn) m _ below meth c (lw_Z below #[Value.ref b] s) D cA (fun q : Nat => s.heap.size ≤ q) (b, b1) F hc hd 2 (va_up (fun _ => b1) 0 b) ⟨?_, ?_, ?_⟩ (va_up (fun _ => b1) 0 b) s.heap [] _ (Nat.le_refl _) g_ag.rf hRH (by rw [g_law_L]; exact hls)
  · intro v ρ1 H1 locs1 ls1 pc1 i n st1 hv hag hR hI hret
    cases hv
    have hd3 := (gI_ok hI).2
    rw [g_law_C] at hd3
    cases i with
    | ireturn =>
      simp only [g_ret] at hret
      split at hret
      · split at hret
        · split at hret
          · cases hret
            refine va_forget (fun q hq => hR.2.2.1.2.2 q hq) ?_
            refine W.widen hc hd ?_
            exact lw_ret hd0 hx hb hr hlocks (hd3 (Nat.succ_ne_zero _))
          · cases hret
        · cases hret
      · cases hret
    | lreturn =>
      simp only [g_ret] at hret
      split at hret
      · split at hret <;> cases hret
      · cases hret
    | dreturn =>
      simp only [g_ret] at hret
      split at hret
      · split at hret <;> cases hret
      · cases hret
    | areturn =>
      simp only [g_ret] at hret
      split at hret
      · split at hret
        · split at hret <;> cases hret
        · cases hret
      · split at hret
        · split at hret <;> cases hret
        · cases hret
      · cases hret
    | return_ =>
      simp only [g_ret] at hret
      split at hret
      · split at hret <;> cases hret
      · cases hret
    | _ => cases hret
  · intro E ρ1 H1 locs1 ls1 pc1 v st1 c2 d2 hr9
    cases hr9
  · intro E ρ1 H1 locs1 ls1 pc1 ce q st1 hr9
    cases hr9
end
section
def s_d1 : DecidableEq (String × Bool) := inferInstance
def s_d2 : DecidableEq (Nat × String × Bool) := @instDecidableEqProd _ _ inferInstance s_d1
def s_d3 : DecidableEq (Nat × Nat × String × Bool) := @instDecidableEqProd _ _ inferInstance s_d2
def s_d4 : DecidableEq (Nat × Nat × Nat × String × Bool) := @instDecidableEqProd _ _ inferInstance s_d3
def s_d5 : DecidableEq (String × Nat × Nat × Nat × String × Bool) := @instDecidableEqProd _ _ inferInstance s_d4
def s_d6 : DecidableEq (Nat × String × Nat × Nat × Nat × String × Bool) := @instDecidableEqProd _ _ inferInstance s_d5
def s_loL : List (List (Nat)) := [[2, 1, 2, 2, 1, 2, 1, 1, 1, 1, 1, 4, 5],
  [3, 2, 1, 3, 4, 4, 2, 4, 1, 4, 2, 4, 1],
  [5, 6, 5, 2, 4, 2, 2, 2, 3, 9, 8, 2, 2],
  [3, 2, 2, 2, 2, 1, 1, 10, 3, 4, 3, 6, 6],
  [6, 2, 2, 4, 5, 5, 2, 2, 5, 5, 4, 4, 3],
  [1, 4, 5, 1, 4, 2, 2, 3, 4, 4, 2, 1, 3],
  [4, 3, 3, 1, 1, 2, 3, 4, 1, 2, 5, 5, 4],
  [2, 4, 4, 4, 2, 5, 5, 4, 7, 2, 2, 4, 4],
  [6, 4, 4, 5, 7, 8, 3, 4, 4, 5, 5, 3, 4],
  [5, 3, 2, 5, 6, 4, 5, 5, 3, 3, 2, 4, 4],
  [2, 3, 1, 4, 2, 2, 3, 3, 2, 3, 2, 4, 7],
  [5, 3, 2, 2, 4, 2, 3, 4, 4, 2, 2, 6, 4],
  [5, 4, 7, 7, 2, 9, 5, 2, 8, 9]]
def s_lo (y : Nat) : Nat := (s_loL.getD (y / 13) []).getD (y % 13) 0
set_option maxRecDepth 100000 in
theorem s_lo_v : (List.range 169).all (fun y => decide (s_lo y = gLo y)) = true := by decide +kernel
def s_KL : List (List (Nat)) := [[0, 1, 2, 3, 4, 5, 6, 7, 8, 9, 10, 5, 11],
  [10, 10, 8, 12, 12, 13, 13, 8, 8, 8, 8, 10, 10],
  [5, 11, 10, 5, 11, 10, 3, 3, 2, 5, 11, 10, 10],
  [14, 15, 8, 8, 16, 8, 16, 10, 5, 11, 10, 5, 11],
  [10, 5, 5, 5, 5, 11, 10, 10, 10, 10, 5, 11, 10],
  [0, 5, 11, 9, 10, 2, 3, 5, 11, 9, 10, 5, 5],
  [11, 10, 2, 3, 3, 5, 11, 9, 9, 10, 5, 11, 10],
  [0, 3, 0, 3, 0, 3, 3, 3, 3, 3, 3, 5, 11],
  [9, 9, 9, 9, 9, 9, 9, 10, 5, 11, 10, 10, 5],
  [11, 10, 2, 5, 11, 10, 5, 11, 10, 3, 5, 11, 10],
  [10, 5, 8, 10, 0, 1, 2, 3, 3, 5, 5, 11, 9],
  [10, 10, 10, 5, 11, 10, 5, 11, 10, 10, 5, 5, 5],
  [5, 11, 10, 10, 10, 5, 5, 10, 10, 11]]
def s_K (y : Nat) : Nat := (s_KL.getD (y / 13) []).getD (y % 13) 0
set_option maxRecDepth 100000 in
theorem s_K_v : (List.range 169).all (fun y => decide (s_K y = gK y)) = true := by decide +kernel
def s_tTL : List (List (List (Nat × String × Nat × Nat × Nat × String × Bool))) := [[[], [], [], [], [], [], [], [], [], [], [], [(13, "java/lang/IllegalArgumentException", 30, 32, 34, "a LIMIT is 10 to 300", false), (35, "java/lang/IllegalStateException", 41, 43, 45, "there are 8 BARS", false)], []],
  [[], [], [], [], [], [], [], [], [], [], [], [], []],
  [[(11, "java/lang/IllegalArgumentException", 30, 62, 34, "a WEIGHT is 1 to 90", false), (31, "java/lang/IllegalArgumentException", 30, 64, 34, "a DROP is 0 to 60", false), (50, "java/lang/IllegalArgumentException", 30, 66, 34, "a THICKNESS is 0 to 2", false), (69, "java/lang/IllegalStateException", 41, 71, 45, "there are 10 PIECES", false)], [], [], [(11, "java/lang/IllegalArgumentException", 30, 82, 34, "a CUE is 0 to 5, or NONE", false), (33, "java/lang/IllegalStateException", 41, 87, 45, "there are 6 CUES", false)], [], [], [(12, "java/lang/IndexOutOfBoundsException", 84, 91, 88, "no such CUE", false)], [(12, "java/lang/IndexOutOfBoundsException", 84, 86, 88, "no such BAR", false)], [], [(30, "java/lang/IllegalArgumentException", 30, 106, 34, "a TARGET is 0 to 120", false), (53, "java/lang/IllegalArgumentException", 30, 108, 34, "a SPEED is 1 to 6", false), (75, "java/lang/IllegalArgumentException", 30, 110, 34, "a DELAY is 0 to 20", false), (96, "java/lang/IllegalStateException", 41, 115, 45, "that CUE RUNS", false), (116, "java/lang/IllegalStateException", 41, 120, 45, "that CUE has 6 MOVES", false), (139, "java/lang/IllegalStateException", 41, 126, 45, "that CUE has a MOVE of that BAR", false)], [], [], []],
  [[], [], [], [], [], [], [], [], [(9, "java/lang/IllegalArgumentException", 30, 146, 34, "a CREW is 0 to 5", false)], [], [], [], []],
  [[], [(12, "java/lang/IndexOutOfBoundsException", 329, 331, 333, "no such PIECE", true)], [(11, "java/lang/IllegalStateException", 41, 189, 45, "a CUE RUNS", false), (28, "java/lang/IllegalStateException", 41, 336, 45, "HEIGHT is above 0", true)], [], [(24, "java/lang/IllegalStateException", 41, 162, 45, "that PIECE is not in the STORE", false), (58, "java/lang/IllegalStateException", 41, 171, 45, "LOAD would be above LIMIT", false)], [], [], [], [], [], [(14, "java/lang/IllegalStateException", 41, 176, 45, "that PIECE is in the STORE", false)], [], []],
  [[], [(20, "java/lang/IllegalArgumentException", 30, 178, 34, "a COUNTER is 0 to 300", false), (37, "java/lang/IllegalStateException", 41, 180, 45, "that BAR has a MOTOR", false)], [], [], [], [], [], [(20, "java/lang/IllegalStateException", 41, 189, 45, "a CUE RUNS", false)], [], [], [], [(11, "java/lang/IllegalStateException", 41, 334, 45, "no CUE RUNS", true)], []],
  [[], [], [], [], [], [], [], [], [], [], [], [], []],
  [[], [], [], [], [], [], [], [], [], [], [], [(11, "java/lang/IllegalArgumentException", 30, 210, 34, "seconds are 1 to 120", false), (36, "java/lang/IllegalStateException", 41, 215, 45, "NOW would be above 3000", false)], []],
  [[], [], [], [], [], [], [], [], [(164, "java/lang/IllegalArgumentException", 30, 235, 34, "what is 0 to 11", false)], [], [], [], [(56, "java/lang/IllegalArgumentException", 30, 237, 34, "what is 0 to 3", false)]],
  [[], [], [(12, "java/lang/IndexOutOfBoundsException", 29, 31, 33, "no such MOVE", false)], [(88, "java/lang/IllegalArgumentException", 30, 249, 34, "what is 0 to 5", false)], [], [], [], [], [], [], [(213, "java/lang/IllegalArgumentException", 30, 277, 34, "what is 0 to 15", true)], [], []],
  [[], [], [], [], [], [], [], [], [], [], [], [], []],
  [[], [], [], [], [], [], [(11, "java/lang/IllegalArgumentException", 30, 286, 34, "seconds are 1 to 60", true)], [], [], [], [], [], []],
  [[(9, "java/lang/IllegalArgumentException", 30, 292, 34, "a bit is no PIECE", true)], [], [], [], [], [], [], [], [], []]]
def s_tT (y : Nat) : List (Nat × String × Nat × Nat × Nat × String × Bool) := (s_tTL.getD (y / 13) []).getD (y % 13) []
set_option maxRecDepth 100000 in
theorem s_tT_v : (List.range 169).all (fun y => @decide (s_tT y = gm_T.getD y []) (@instDecidableEqList _ s_d6 (s_tT y) (gm_T.getD y []))) = true := by decide +kernel
def s_tIL : List (List (List (List (Nat × Instr × Nat)))) := [[gi_0, gi_1, gi_2, gi_3, gi_4, gi_5, gi_6, gi_7, gi_8, gi_9, gi_10, gi_11, gi_12],
  [gi_13, gi_14, gi_15, gi_16, gi_17, gi_18, gi_19, gi_20, gi_21, gi_22, gi_23, gi_24, gi_25],
  [gi_26, gi_27, gi_28, gi_29, gi_30, gi_31, gi_32, gi_33, gi_34, gi_35, gi_36, gi_37, gi_38],
  [gi_39, gi_40, gi_41, gi_42, gi_43, gi_44, gi_45, gi_46, gi_47, gi_48, gi_49, gi_50, gi_51],
  [gi_52, gi_53, gi_54, gi_55, gi_56, gi_57, gi_58, gi_59, gi_60, gi_61, gi_62, gi_63, gi_64],
  [gi_65, gi_66, gi_67, gi_68, gi_69, gi_70, gi_71, gi_72, gi_73, gi_74, gi_75, gi_76, gi_77],
  [gi_78, gi_79, gi_80, gi_81, gi_82, gi_83, gi_84, gi_85, gi_86, gi_87, gi_88, gi_89, gi_90],
  [gi_91, gi_92, gi_93, gi_94, gi_95, gi_96, gi_97, gi_98, gi_99, gi_100, gi_101, gi_102, gi_103],
  [gi_104, gi_105, gi_106, gi_107, gi_108, gi_109, gi_110, gi_111, gi_112, gi_113, gi_114, gi_115, gi_116],
  [gi_117, gi_118, gi_119, gi_120, gi_121, gi_122, gi_123, gi_124, gi_125, gi_126, gi_127, gi_128, gi_129],
  [gi_130, gi_131, gi_132, gi_133, gi_134, gi_135, gi_136, gi_137, gi_138, gi_139, gi_140, gi_141, gi_142],
  [gi_143, gi_144, gi_145, gi_146, gi_147, gi_148, gi_149, gi_150, gi_151, gi_152, gi_153, gi_154, gi_155],
  [gi_156, gi_157, gi_158, gi_159, gi_160, gi_161, gi_162, gi_163, gi_164, gi_165]]
def s_tI (y : Nat) : List (List (Nat × Instr × Nat)) := (s_tIL.getD (y / 13) []).getD (y % 13) []
set_option maxRecDepth 100000 in
theorem s_tI_v : (List.range 169).all (fun y => decide (s_tI y = (gCq y).2)) = true := by decide +kernel
set_option maxRecDepth 100000 in
theorem s_lo_eq (y : Nat) : s_lo y = gLo y := by
  rcases Nat.lt_or_ge y 169 with h | h
  · exact of_decide_eq_true (List.all_eq_true.mp s_lo_v y (List.mem_range.mpr h))
  · unfold s_lo gLo
    rw [g_getD_ge (L := s_loL) (Nat.le_trans (show s_loL.length ≤ 13 by decide +kernel) (show 13 ≤ y / 13 by omega)), g_getD_ge (Nat.le_trans (show gm_L.length ≤ 169 by decide +kernel) h)]
    rfl
set_option maxRecDepth 100000 in
theorem s_K_eq (y : Nat) : s_K y = gK y := by
  rcases Nat.lt_or_ge y 169 with h | h
  · exact of_decide_eq_true (List.all_eq_true.mp s_K_v y (List.mem_range.mpr h))
  · unfold s_K gK
    rw [g_getD_ge (L := s_KL) (Nat.le_trans (show s_KL.length ≤ 13 by decide +kernel) (show 13 ≤ y / 13 by omega)), g_getD_ge (Nat.le_trans (show gm_K.length ≤ 169 by decide +kernel) h)]
    rfl
set_option maxRecDepth 100000 in
theorem s_tT_eq (y : Nat) : s_tT y = gm_T.getD y [] := by
  rcases Nat.lt_or_ge y 169 with h | h
  · exact @of_decide_eq_true _ (@instDecidableEqList _ s_d6 (s_tT y) (gm_T.getD y [])) (List.all_eq_true.mp s_tT_v y (List.mem_range.mpr h))
  · unfold s_tT
    rw [g_getD_ge (L := s_tTL) (Nat.le_trans (show s_tTL.length ≤ 13 by decide +kernel) (show 13 ≤ y / 13 by omega)), g_getD_ge (Nat.le_trans (show gm_T.length ≤ 169 by decide +kernel) h)]
    rfl
set_option maxRecDepth 100000 in
theorem s_tI_eq (y : Nat) : s_tI y = (gCq y).2 := by
  rcases Nat.lt_or_ge y 169 with h | h
  · exact of_decide_eq_true (List.all_eq_true.mp s_tI_v y (List.mem_range.mpr h))
  · unfold s_tI gCq
    rw [g_getD_ge (L := s_tIL) (Nat.le_trans (show s_tIL.length ≤ 13 by decide +kernel) (show 13 ≤ y / 13 by omega)), g_getD_ge (Nat.le_trans (show gm_CI.length ≤ 169 by decide +kernel) h)]
    rfl
def s_thr (y pc : Nat) : Option (String × Nat × Nat × Nat × String × Bool) := (s_tT y).lookup pc
def s_ic (y pc : Nat) : Option (Instr × Nat) := ((s_tI y).getD (pc / 32) []).lookup pc
theorem s_thr_eq (y pc : Nat) : s_thr y pc = gThr y pc := by unfold s_thr gThr; rw [s_tT_eq]
theorem s_ic_eq (y pc : Nat) : s_ic y pc = gI y pc := by unfold s_ic gI; rw [s_tI_eq]
def s_fld (y ix : Nat) : Option (Nat × Nat × Nat × Option String × String) := (gc_fl.getD (s_K y) []).lookup ix
theorem s_fld_eq (y ix : Nat) : s_fld y ix = gFld y ix := by unfold s_fld gFld; rw [s_K_eq]
def s_iv (y ix : Nat) : Option (Nat × Nat × Nat × Nat × Nat × Nat × Nat × Nat × Option String) := (gc_iv.getD (s_K y) []).lookup ix
theorem s_iv_eq (y ix : Nat) : s_iv y ix = gIv y ix := by unfold s_iv gIv; rw [s_K_eq]
end
section
/-! THE PURE RUN AS A RELATION: g_R (it comes to that end), g_G (from A it goes to B) -/
theorem g_run_mono {xs : Nat → Int32} {L : Nat} : ∀ (k y pc : Nat) (lv : gL) (st : List Value) (M : gM) (c d : Nat) (o : gOut), g_run xs L k y pc lv st M c d = some o → g_run xs L (k + 1) y pc lv st M c d = some o
  | 0, _, _, _, _, _, _, _, _, h => by cases h
  | k + 1, y, pc, lv, st, M, c, d, o, h => by
    have ih := g_run_mono (xs := xs) (L := L) k
    unfold g_run at h
    unfold g_run
    cases hT : gThr y pc with
    | some v => rw [hT] at h; exact h
    | none =>
      rw [hT] at h
      dsimp only at h ⊢
      cases hI : gI y pc with
      | none => rw [hI] at h; cases h
      | some iv =>
        obtain ⟨i, n⟩ := iv
        rw [hI] at h
        dsimp only at h ⊢
        cases hr : g_ret y i st with
        | some r => rw [hr] at h; exact h
        | none =>
          rw [hr] at h
          dsimp only at h ⊢
          cases hc : g_cal y i st lv M with
          | some zv =>
            obtain ⟨z, as, rest, nn⟩ := zv
            rw [hc] at h
            dsimp only at h ⊢
            cases hz : g_run xs L k z 0 (lv_args 0 as) [] M 0 0 with
            | none => rw [hz] at h; cases h
            | some oo =>
              obtain ⟨r2, M1, c1, d1⟩ := oo
              rw [hz] at h
              rw [ih _ _ _ _ _ _ _ _ hz]
              cases r2 with
              | inl v => exact ih _ _ _ _ _ _ _ _ h
              | inr E =>
                dsimp only at h ⊢
                cases hf : g_find y pc E (gH y) with
                | none => rw [hf] at h; cases h
                | some w =>
                  rw [hf] at h
                  cases w with
                  | none => exact h
                  | some hh => exact ih _ _ _ _ _ _ _ _ h
          | none =>
            rw [hc] at h
            dsimp only at h ⊢
            cases hs : g_stp xs L y i pc lv st M c d with
            | none => rw [hs] at h; cases h
            | some q =>
              rw [hs] at h
              dsimp only at h ⊢
              split at h
              · next hm => rw [if_pos hm]; exact ih _ _ _ _ _ _ _ _ h
              · cases h
theorem g_run_le {xs : Nat → Int32} {L k y pc : Nat} {lv : gL} {st : List Value} {M : gM} {c d : Nat} {o : gOut} (h : g_run xs L k y pc lv st M c d = some o) : ∀ {k' : Nat}, k ≤ k' → g_run xs L k' y pc lv st M c d = some o := by
  intro k' hk
  induction hk with
  | refl => exact h
  | step _ ih => exact g_run_mono _ _ _ _ _ _ _ _ _ ih
def g_R (xs : Nat → Int32) (L y pc : Nat) (lv : gL) (st : List Value) (M : gM) (c d : Nat) (o : gOut) : Prop := ∃ k, g_run xs L k y pc lv st M c d = some o
theorem g_R_thr {xs : Nat → Int32} {L y pc : Nat} {lv : gL} {st : List Value} {M : gM} {c d : Nat} {v : String × Nat × Nat × Nat × String × Bool} (hT : gThr y pc = some v) (hc : (st.map fun v => v.category).sum ≤ 8 ∧ 6 ≤ gF y ∧ 98 ≤ gW y ∧ gH y = []) : g_R xs L y pc lv st M c d (.inr v.1, M, c + 1, d + 6) :=
  ⟨1, by unfold g_run; rw [hT]; dsimp only; rw [if_pos hc]⟩
theorem g_R_ret {xs : Nat → Int32} {L y pc n : Nat} {i : Instr} {lv : gL} {st : List Value} {M : gM} {c d : Nat} {r : Option Value} (hT : gThr y pc = none) (hI : gI y pc = some (i, n)) (hr : g_ret y i st = some r) : g_R xs L y pc lv st M c d (.inl r, M, c, d) :=
  ⟨1, by unfold g_run; rw [hT]; dsimp only; rw [hI]; dsimp only; rw [hr]⟩
theorem g_R_stp {xs : Nat → Int32} {L y pc n : Nat} {i : Instr} {lv : gL} {st : List Value} {M : gM} {c d : Nat} {q : gCf} {o : gOut} (hT : gThr y pc = none) (hI : gI y pc = some (i, n)) (hr : g_ret y i st = none) (hc : g_cal y i st lv M = none) (hs : g_stp xs L y i pc lv st M c d = some q) (hm : M.1 ≤ q.2.2.2.1.1 ∧ c ≤ q.2.2.2.2.1 ∧ d ≤ q.2.2.2.2.2) (h : g_R xs L y q.1 q.2.1 q.2.2.1 q.2.2.2.1 q.2.2.2.2.1 q.2.2.2.2.2 o) : g_R xs L y pc lv st M c d o := by
  obtain ⟨k, h⟩ := h
  exact ⟨k + 1, by unfold g_run; rw [hT]; dsimp only; rw [hI]; dsimp only; rw [hr]; dsimp only; rw [hc]; dsimp only; rw [hs]; dsimp only; rw [if_pos hm]; exact h⟩
theorem g_R_cal {xs : Nat → Int32} {L y pc n : Nat} {i : Instr} {lv : gL} {st : List Value} {M : gM} {c d : Nat} {o : gOut} {z nn : Nat} {as rest : List Value} {r : Option Value} {M1 : gM} {c1 d1 : Nat} (hT : gThr y pc = none) (hI : gI y pc = some (i, n)) (hr : g_ret y i st = none) (hc : g_cal y i st lv M = some (z, as, rest, nn)) (hz : g_R xs L z 0 (lv_args 0 as) [] M 0 0 (.inl r, M1, c1, d1)) (h : g_R xs L y (pc + nn) lv (r.toList ++ rest) M1 (c + c1) (d + d1) o) : g_R xs L y pc lv st M c d o := by
  obtain ⟨k1, hz⟩ := hz
  obtain ⟨k2, h⟩ := h
  refine ⟨max k1 k2 + 1, ?_⟩
  unfold g_run; rw [hT]; dsimp only; rw [hI]; dsimp only; rw [hr]; dsimp only; rw [hc]; dsimp only
  rw [g_run_le hz (Nat.le_max_left k1 k2)]
  exact g_run_le h (Nat.le_max_right k1 k2)
theorem g_R_calX {xs : Nat → Int32} {L y pc n : Nat} {i : Instr} {lv : gL} {st : List Value} {M : gM} {c d : Nat} {o : gOut} {z nn : Nat} {as rest : List Value} {E : String} {M1 : gM} {c1 d1 hh : Nat} (hT : gThr y pc = none) (hI : gI y pc = some (i, n)) (hr : g_ret y i st = none) (hc : g_cal y i st lv M = some (z, as, rest, nn)) (hz : g_R xs L z 0 (lv_args 0 as) [] M 0 0 (.inr E, M1, c1, d1)) (hf : g_find y pc E (gH y) = some (some hh)) (h : g_R xs L y hh lv [.ref M1.1] (M1.1 + 1, va_up M1.2 M1.1 none) (c + c1) (d + d1) o) : g_R xs L y pc lv st M c d o := by
  obtain ⟨k1, hz⟩ := hz
  obtain ⟨k2, h⟩ := h
  refine ⟨max k1 k2 + 1, ?_⟩
  unfold g_run; rw [hT]; dsimp only; rw [hI]; dsimp only; rw [hr]; dsimp only; rw [hc]; dsimp only
  rw [g_run_le hz (Nat.le_max_left k1 k2)]
  dsimp only
  rw [hf]
  exact g_run_le h (Nat.le_max_right k1 k2)
theorem g_R_calO {xs : Nat → Int32} {L y pc n : Nat} {i : Instr} {lv : gL} {st : List Value} {M : gM} {c d : Nat} {z nn : Nat} {as rest : List Value} {E : String} {M1 : gM} {c1 d1 : Nat} (hT : gThr y pc = none) (hI : gI y pc = some (i, n)) (hr : g_ret y i st = none) (hc : g_cal y i st lv M = some (z, as, rest, nn)) (hz : g_R xs L z 0 (lv_args 0 as) [] M 0 0 (.inr E, M1, c1, d1)) (hf : g_find y pc E (gH y) = some none) : g_R xs L y pc lv st M c d (.inr E, M1, c + c1, d + d1) := by
  obtain ⟨k1, hz⟩ := hz
  refine ⟨k1 + 1, ?_⟩
  unfold g_run; rw [hT]; dsimp only; rw [hI]; dsimp only; rw [hr]; dsimp only; rw [hc]; dsimp only
  rw [hz]
  dsimp only
  rw [hf]
/-! THE SYMBOLIC RUN: values are known, or 'symbol n + k'; cells in a list, by relative addresses; what is known of symbols: from .. to .. -/
abbrev sV : Type := Value ⊕ (Nat × Int32)
abbrev sL : Type := List (Nat × sV)
abbrev sE : Type := (Nat × List sV) ⊕ (Nat × (List sV ⊕ List Int64 ⊕ List (Option Nat)))
abbrev sM : Type := Nat × List (List (Option sE))
abbrev sI : Type := List (Int × Int)
def s_v (ε : Nat → Int32) (v : sV) : Value := match v with
  | .inl w => w
  | .inr q => .int (ε q.1 + q.2)
def s_i (ε : Nat → Int32) (v : sV) : Int32 := match v with
  | .inl (.int x) => x
  | .inr q => ε q.1 + q.2
  | _ => 0
def s_e (ε : Nat → Int32) (e : sE) : gE := match e with
  | .inl o => .inl (o.1, o.2.map (s_v ε))
  | .inr (t, .inl l) => .inr (t, l.length, .inl (fun i => s_i ε (l.getD i (.inl (.int 0)))))
  | .inr (t, .inr (.inl l)) => .inr (t, l.length, .inr (.inl (fun i => l.getD i 0)))
  | .inr (t, .inr (.inr l)) => .inr (t, l.length, .inr (.inr (fun i => l.getD i none)))
def s_rd (m : sM) (a : Nat) : Option sE := (m.2.getD (a / 16) []).getD (a % 16) none
def s_M (ε : Nat → Int32) (m : sM) : gM := (m.1, fun a => (s_rd m a).map (s_e ε))
/-- nothing lies behind the last cell -/
def s_wf (m : sM) : Prop := ∀ a, m.1 ≤ a → s_rd m a = none
def s_wr (m : sM) (a : Nat) (e : Option sE) : sM := (m.1, m.2.set (a / 16) ((m.2.getD (a / 16) []).set (a % 16) e))
def s_nw (m : sM) (e : Option sE) : sM := (m.1 + 1, (s_wr m m.1 e).2)
def s_can (m : sM) : Bool := decide (m.1 % 16 < (m.2.getD (m.1 / 16) []).length)
def s_S (ε : Nat → Int32) (st : List sV) : List Value := st.map (s_v ε)
def s_Lv (ε : Nat → Int32) (lv : sL) : gL := lv.map (fun q => (q.1, s_v ε q.2))
def s_sat (ε : Nat → Int32) (I : sI) : Prop := ∀ (n : Nat) (r : Int × Int), I[n]? = some r → r.1 ≤ (ε n).toInt ∧ (ε n).toInt ≤ r.2
def s_ok (n : Nat) (v : sV) : Bool := match v with
  | .inl w => g_ok n w
  | .inr _ => true
def s_cat (v : sV) : Nat := match v with
  | .inl w => w.category
  | .inr _ => 1
def s_args : Nat → List sV → sL
  | _, [] => []
  | i, v :: vs => (i, v) :: s_args (if s_cat v = 2 then i + 2 else i + 1) vs
def s_rs (I : sI) (v : sV) : sV := match v with
  | .inl w => .inl w
  | .inr q => match I[q.1]? with
    | some r => if r.1 = r.2 then .inl (.int (Int32.ofInt r.1 + q.2)) else .inr q
    | none => .inr q
def s_cut3 (I : sI) (n : Nat) (c : Int) : List sI := match I[n]? with
  | none => [I]
  | some r => (([(r.1, min r.2 (c - 1)), (max r.1 c, min r.2 c), (max r.1 (c + 1), r.2)] : List (Int × Int)).filter (fun q => decide (q.1 ≤ q.2))).map (fun q => I.set n q)
def s_pts (I : sI) (n : Nat) (a : Int) (len : Nat) : List sI := match I[n]? with
  | none => [I]
  | some r => (((r.1, min r.2 (a - 1)) :: (max r.1 (a + (len : Int)), r.2) :: (List.range len).map (fun (j : Nat) => ((a + (j : Int), a + (j : Int)) : Int × Int))).filter (fun q => decide (r.1 ≤ q.1 ∧ q.2 ≤ r.2 ∧ q.1 ≤ q.2))).map (fun q => I.set n q)
def s_sp (I : sI) (i : Instr) (st : List sV) (m : sM) : List sI := match i with
  | .ifCond _ _ => match st with
    | .inr q :: _ => s_cut3 I q.1 0
    | _ => [I]
  | .if_icmp _ _ => match st with
    | .inl (.int c) :: .inr q :: _ => s_cut3 I q.1 c.toInt
    | .inr q :: .inl (.int c) :: _ => s_cut3 I q.1 c.toInt
    | _ => [I]
  | .tableswitch _ lo _ offs => match st with
    | .inr q :: _ => s_pts I q.1 lo offs.size
    | _ => [I]
  | .iaload => match st with
    | .inr q :: .inl (.ref a) :: _ => match s_rd m a with
      | some (.inr (_, .inl l)) => s_pts I q.1 0 l.length
      | _ => [I]
    | _ => [I]
  | _ => [I]
theorem s_sat_set {ε : Nat → Int32} {I : sI} (h : s_sat ε I) {n : Nat} {q : Int × Int} (hq : q.1 ≤ (ε n).toInt ∧ (ε n).toInt ≤ q.2) : s_sat ε (I.set n q) := fun m r hr => by
  rw [List.getElem?_set] at hr
  split at hr
  · next hm =>
    subst hm
    split at hr
    · cases hr; exact hq
    · cases hr
  · exact h m r hr
theorem s_cut3_ok {ε : Nat → Int32} {I : sI} (h : s_sat ε I) (n : Nat) (c : Int) : ∃ I' ∈ s_cut3 I n c, s_sat ε I' := by
  unfold s_cut3
  cases hI : I[n]? with
  | none => exact ⟨I, List.mem_singleton.mpr rfl, h⟩
  | some r =>
    dsimp only
    obtain ⟨h1, h2⟩ := h n r hI
    have key : ∀ q : Int × Int, q ∈ ([(r.1, min r.2 (c - 1)), (max r.1 c, min r.2 c), (max r.1 (c + 1), r.2)] : List (Int × Int)) → q.1 ≤ (ε n).toInt ∧ (ε n).toInt ≤ q.2 → ∃ I' ∈ (([(r.1, min r.2 (c - 1)), (max r.1 c, min r.2 c), (max r.1 (c + 1), r.2)] : List (Int × Int)).filter (fun q => decide (q.1 ≤ q.2))).map (fun q => I.set n q), s_sat ε I' := fun q hq hb =>
      ⟨I.set n q, List.mem_map.mpr ⟨q, List.mem_filter.mpr ⟨hq, decide_eq_true (Int.le_trans hb.1 hb.2)⟩, rfl⟩, s_sat_set h hb⟩
    rcases Int.lt_trichotomy (ε n).toInt c with hc | hc | hc
    · exact key _ (List.mem_cons_self) ⟨h1, by dsimp only; omega⟩
    · exact key _ (List.mem_cons_of_mem _ List.mem_cons_self) ⟨by dsimp only; omega, by dsimp only; omega⟩
    · exact key _ (List.mem_cons_of_mem _ (List.mem_cons_of_mem _ List.mem_cons_self)) ⟨by dsimp only; omega, h2⟩
theorem s_pts_ok {ε : Nat → Int32} {I : sI} (h : s_sat ε I) (n : Nat) (a : Int) (len : Nat) : ∃ I' ∈ s_pts I n a len, s_sat ε I' := by
  unfold s_pts
  cases hI : I[n]? with
  | none => exact ⟨I, List.mem_singleton.mpr rfl, h⟩
  | some r =>
    dsimp only
    obtain ⟨h1, h2⟩ := h n r hI
    have key : ∀ q : Int × Int, q ∈ (((r.1, min r.2 (a - 1)) :: (max r.1 (a + (len : Int)), r.2) :: (List.range len).map (fun (j : Nat) => ((a + (j : Int), a + (j : Int)) : Int × Int)))) → (r.1 ≤ q.1 ∧ q.2 ≤ r.2) → q.1 ≤ (ε n).toInt ∧ (ε n).toInt ≤ q.2 → ∃ I' ∈ (((r.1, min r.2 (a - 1)) :: (max r.1 (a + (len : Int)), r.2) :: (List.range len).map (fun (j : Nat) => ((a + (j : Int), a + (j : Int)) : Int × Int))).filter (fun q => decide (r.1 ≤ q.1 ∧ q.2 ≤ r.2 ∧ q.1 ≤ q.2))).map (fun q => I.set n q), s_sat ε I' := fun q hq hr hb =>
      ⟨I.set n q, List.mem_map.mpr ⟨q, List.mem_filter.mpr ⟨hq, decide_eq_true ⟨hr.1, hr.2, Int.le_trans hb.1 hb.2⟩⟩, rfl⟩, s_sat_set h hb⟩
    by_cases hc : (ε n).toInt < a
    · exact key _ (List.mem_cons_self) ⟨Int.le_refl _, by dsimp only; omega⟩ ⟨h1, by dsimp only; omega⟩
    · by_cases hc2 : a + (len : Int) ≤ (ε n).toInt
      · exact key _ (List.mem_cons_of_mem _ List.mem_cons_self) ⟨by dsimp only; omega, Int.le_refl _⟩ ⟨by dsimp only; omega, h2⟩
      · have hj : a + ((((ε n).toInt - a).toNat : Nat) : Int) = (ε n).toInt := by omega
        refine key (a + ((((ε n).toInt - a).toNat : Nat) : Int), a + ((((ε n).toInt - a).toNat : Nat) : Int)) (List.mem_cons_of_mem _ (List.mem_cons_of_mem _ (List.mem_map.mpr ⟨((ε n).toInt - a).toNat, List.mem_range.mpr (by omega), rfl⟩))) ?_ ?_
        · rw [hj]; exact ⟨h1, h2⟩
        · rw [hj]; exact ⟨Int.le_refl _, Int.le_refl _⟩
theorem s_sp_ok {ε : Nat → Int32} {I : sI} (h : s_sat ε I) (i : Instr) (st : List sV) (m : sM) : ∃ I' ∈ s_sp I i st m, s_sat ε I' := by
  have h0 : ∃ I' ∈ [I], s_sat ε I' := ⟨I, List.mem_singleton.mpr rfl, h⟩
  unfold s_sp
  split
  · split
    · exact s_cut3_ok h _ _
    · exact h0
  · split
    · exact s_cut3_ok h _ _
    · exact s_cut3_ok h _ _
    · exact h0
  · split
    · exact s_pts_ok h _ _ _
    · exact h0
  · split
    · split
      · exact s_pts_ok h _ _ _
      · exact h0
    · exact h0
  · exact h0
theorem s_rs_ok {ε : Nat → Int32} {I : sI} (h : s_sat ε I) (v : sV) : s_v ε (s_rs I v) = s_v ε v := by
  unfold s_rs
  split
  · rfl
  · next q =>
    split
    · next r hr =>
      split
      · next he =>
        obtain ⟨h1, h2⟩ := h _ _ hr
        have h3 : (ε q.1).toInt = r.1 := by omega
        show Value.int (Int32.ofInt r.1 + q.2) = Value.int (ε q.1 + q.2)
        rw [← h3, Int32.ofInt_toInt]
      · rfl
    · rfl
def s_cmp (I : sI) (n : Nat) (c : Int) : Option Ordering := match I[n]? with
  | some r => if r.2 < c then some .lt else if c < r.1 then some .gt else if r.1 = c ∧ r.2 = c then some .eq else none
  | none => none
def s_o (cd : Jvm.ClassFile.Cond) (o : Ordering) : Bool := match cd with
  | .eq => decide (o = .eq)
  | .ne => !decide (o = .eq)
  | .lt => decide (o = .lt)
  | .ge => !decide (o = .lt)
  | .gt => decide (o = .gt)
  | .le => !decide (o = .gt)
def s_sw (o : Ordering) : Ordering := match o with
  | .lt => .gt
  | .eq => .eq
  | .gt => .lt
theorem s_cmp_i {ε : Nat → Int32} {I : sI} (h : s_sat ε I) {n : Nat} {c : Int} {o : Ordering} (ho : s_cmp I n c = some o) : (o = .lt ∧ (ε n).toInt < c) ∨ (o = .eq ∧ (ε n).toInt = c) ∨ (o = .gt ∧ c < (ε n).toInt) := by
  unfold s_cmp at ho
  split at ho
  · next r hr =>
    obtain ⟨h1, h2⟩ := h _ _ hr
    split at ho
    · cases ho; exact Or.inl ⟨rfl, by omega⟩
    · split at ho
      · cases ho; exact Or.inr (Or.inr ⟨rfl, by omega⟩)
      · split at ho
        · next hh => cases ho; exact Or.inr (Or.inl ⟨rfl, by omega⟩)
        · cases ho
  · cases ho
theorem s_c2_ok (cd : Jvm.ClassFile.Cond) {x1 x2 : Int32} {o : Ordering} (h : (o = .lt ∧ x1.toInt < x2.toInt) ∨ (o = .eq ∧ x1.toInt = x2.toInt) ∨ (o = .gt ∧ x2.toInt < x1.toInt)) : g_c2 cd x1 x2 = s_o cd o := by
  rcases h with ⟨rfl, h⟩ | ⟨rfl, h⟩ | ⟨rfl, h⟩
  · have hne : ¬ x1 = x2 := fun e => by rw [e] at h; omega
    have h1 : x1 < x2 := Int32.lt_iff_toInt_lt.mpr h
    have h2 : x1 ≤ x2 := Int32.le_iff_toInt_le.mpr (by omega)
    have h3 : ¬ x2 ≤ x1 := fun e => by have := Int32.le_iff_toInt_le.mp e; omega
    have h4 : ¬ x2 < x1 := fun e => by have := Int32.lt_iff_toInt_lt.mp e; omega
    cases cd <;> simp [g_c2, s_o, hne, h1, h2, h3, h4]
  · have he : x1 = x2 := Int32.toInt_inj.mp h
    subst he
    have h1 : ¬ x1 < x1 := fun e => by have := Int32.lt_iff_toInt_lt.mp e; omega
    have h2 : x1 ≤ x1 := Int32.le_iff_toInt_le.mpr (by omega)
    cases cd <;> simp [g_c2, s_o, h1, h2]
  · have hne : ¬ x1 = x2 := fun e => by rw [e] at h; omega
    have h1 : x2 < x1 := Int32.lt_iff_toInt_lt.mpr h
    have h2 : x2 ≤ x1 := Int32.le_iff_toInt_le.mpr (by omega)
    have h3 : ¬ x1 ≤ x2 := fun e => by have := Int32.le_iff_toInt_le.mp e; omega
    have h4 : ¬ x1 < x2 := fun e => by have := Int32.lt_iff_toInt_lt.mp e; omega
    cases cd <;> simp [g_c2, s_o, hne, h1, h2, h3, h4]
theorem s_c1_c2 (cd : Jvm.ClassFile.Cond) (x : Int32) : g_c1 cd x = g_c2 cd x 0 := by cases cd <;> rfl
theorem s_ok_ok (ε : Nat → Int32) (n : Nat) (v : sV) : g_ok n (s_v ε v) = s_ok n v := by
  rcases v with w | q <;> rfl
theorem s_cat_ok (ε : Nat → Int32) (v : sV) : (s_v ε v).category = s_cat v := by
  rcases v with w | q <;> rfl
theorem s_all_ok (ε : Nat → Int32) (n : Nat) (st : List sV) : (s_S ε st).all (g_ok n) = st.all (s_ok n) := by
  unfold s_S
  rw [List.all_map]
  congr 1
  funext v
  exact s_ok_ok ε n v
theorem s_allL_ok (ε : Nat → Int32) (n : Nat) (lv : sL) : (s_Lv ε lv).all (fun q => g_ok n q.2) = lv.all (fun q => s_ok n q.2) := by
  unfold s_Lv
  rw [List.all_map]
  congr 1
  funext v
  exact s_ok_ok ε n v.2
theorem s_cats_ok (ε : Nat → Int32) (st : List sV) : ((s_S ε st).map fun v => v.category) = st.map s_cat := by
  unfold s_S
  rw [List.map_map]
  exact List.map_congr_left fun v _ => s_cat_ok ε v
theorem s_args_ok (ε : Nat → Int32) : ∀ (l : List sV) (i : Nat), lv_args i (s_S ε l) = s_Lv ε (s_args i l)
  | [], _ => rfl
  | v :: l, i => by
    have ih := s_args_ok ε l
    simp only [s_S] at ih
    simp only [s_S, List.map_cons, lv_args, s_args, s_Lv, s_cat_ok]
    rw [ih]
    rfl
theorem s_look_ok (ε : Nat → Int32) : ∀ (lv : sL) (i : Nat), (s_Lv ε lv).lookup i = (lv.lookup i).map (s_v ε)
  | [], _ => rfl
  | (a, b) :: lv, i => by
    have ih := s_look_ok ε lv i
    simp only [s_Lv] at ih
    simp only [s_Lv, List.map_cons, List.lookup_cons]
    cases hk : (i == a) with
    | true => rfl
    | false => exact ih
theorem s_rd_ok {ε : Nat → Int32} {m : sM} (hm : s_wf m) (a : Nat) : g_rd (s_M ε m) a = (s_rd m a).map (s_e ε) := by
  unfold g_rd s_M
  dsimp only
  split
  · rfl
  · next h =>
    rw [hm a (Nat.not_lt.mp h)]
    rfl
theorem s_wr_rd {m : sM} {a : Nat} (h : a % 16 < (m.2.getD (a / 16) []).length) (e : Option sE) (j : Nat) : s_rd (s_wr m a e) j = if j = a then e else s_rd m j := by
  have hlt : a / 16 < m.2.length := by
    rcases Nat.lt_or_ge (a / 16) m.2.length with h1 | h1
    · exact h1
    · rw [g_getD_ge h1] at h
      exact absurd h (Nat.not_lt_zero _)
  unfold s_rd s_wr
  dsimp only
  by_cases hj : j = a
  · subst hj
    rw [if_pos rfl]
    simp only [List.getD_eq_getElem?_getD, List.getElem?_set] at h ⊢
    rw [List.getElem?_eq_getElem hlt] at h
    simp only [Option.getD_some] at h
    simp [hlt, h]
  · rw [if_neg hj]
    by_cases h1 : j / 16 = a / 16
    · have h2 : j % 16 ≠ a % 16 := fun h2 => hj (by omega)
      rw [h1]
      simp only [List.getD_eq_getElem?_getD, List.getElem?_set]
      simp [hlt, Ne.symm h2]
    · simp only [List.getD_eq_getElem?_getD, List.getElem?_set]
      rw [if_neg (fun q => h1 q.symm)]
theorem s_in {m : sM} {a : Nat} (ha : (s_rd m a).isSome = true) : a % 16 < (m.2.getD (a / 16) []).length := by
  rcases Nat.lt_or_ge (a % 16) (m.2.getD (a / 16) []).length with h | h
  · exact h
  · unfold s_rd at ha
    rw [g_getD_ge h] at ha
    cases ha
theorem s_set_ok {ε : Nat → Int32} {m : sM} (hm : s_wf m) {a : Nat} {e : sE} (ha : (s_rd m a).isSome = true) : ((s_M ε m).1, va_up (s_M ε m).2 a (some (s_e ε e))) = s_M ε (s_wr m a (some e)) := by
  have h := s_in ha
  unfold s_M
  show (m.1, _) = (m.1, _)
  congr 1
  funext j
  rw [s_wr_rd h]
  unfold va_up
  by_cases hj : j = a
  · rw [if_pos hj, if_pos hj]; rfl
  · rw [if_neg hj, if_neg hj]
theorem s_set_wf {m : sM} (hm : s_wf m) {a : Nat} (ha : (s_rd m a).isSome = true) (e : Option sE) : s_wf (s_wr m a e) := fun j hj => by
  rw [s_wr_rd (s_in ha)]
  have hj' : m.1 ≤ j := hj
  by_cases h : j = a
  · subst h
    rw [hm j hj'] at ha
    cases ha
  · rw [if_neg h]
    exact hm j hj'
theorem s_new_ok {ε : Nat → Int32} {m : sM} (hm : s_wf m) (hc : s_can m = true) (e : Option sE) : ((s_M ε m).1 + 1, va_up (s_M ε m).2 (s_M ε m).1 (e.map (s_e ε))) = s_M ε (s_nw m e) := by
  have h := of_decide_eq_true hc
  unfold s_M
  show (m.1 + 1, _) = (m.1 + 1, _)
  congr 1
  funext j
  have e1 : s_rd (s_nw m e) j = s_rd (s_wr m m.1 e) j := rfl
  rw [e1, s_wr_rd h]
  unfold va_up
  by_cases hj : j = m.1
  · rw [if_pos hj, if_pos hj]
  · rw [if_neg hj, if_neg hj]
theorem s_new_wf {m : sM} (hm : s_wf m) (hc : s_can m = true) (e : Option sE) : s_wf (s_nw m e) := fun j hj => by
  have hj' : m.1 + 1 ≤ j := hj
  have e1 : s_rd (s_nw m e) j = s_rd (s_wr m m.1 e) j := rfl
  rw [e1, s_wr_rd (of_decide_eq_true hc), if_neg (by omega)]
  exact hm j (by omega)
theorem s_dark_ok {ε : Nat → Int32} {m : sM} (hm : s_wf m) : ((s_M ε m).1 + 1, va_up (s_M ε m).2 (s_M ε m).1 none) = s_M ε (m.1 + 1, m.2) := by
  unfold s_M
  show (m.1 + 1, _) = (m.1 + 1, _)
  congr 1
  funext j
  unfold va_up
  by_cases hj : j = m.1
  · have e1 : s_rd (m.1 + 1, m.2) j = s_rd m j := rfl
    rw [if_pos hj, e1, hm j (by omega)]
    rfl
  · rw [if_neg hj]
    rfl
theorem s_dark_wf {m : sM} (hm : s_wf m) : s_wf (m.1 + 1, m.2) := fun j hj => hm j (Nat.le_of_succ_le hj)
theorem s_upd_ok {α β : Type} (g : α → β) (z : α) {l : List α} {k : Nat} (hk : k < l.length) (v : α) : (fun j => if j = k then g v else g (l.getD j z)) = fun j => g ((l.set k v).getD j z) := by
  funext j
  simp only [List.getD_eq_getElem?_getD, List.getElem?_set]
  by_cases hj : j = k
  · subst hj
    rw [if_pos rfl, if_pos rfl, if_pos hk]
    rfl
  · rw [if_neg hj, if_neg (fun h => hj h.symm)]
theorem s_repl {α : Type} (n : Nat) (z : α) (j : Nat) : (List.replicate n z).getD j z = z := by
  rw [List.getD_eq_getElem?_getD, List.getElem?_replicate]
  split <;> rfl
def s_cpy {α : Type} (z : α) (l g : List α) (sp dp n : Nat) : List α := (List.range g.length).map (fun k => if dp ≤ k ∧ k < dp + n then l.getD (sp + (k - dp)) z else g.getD k z)
theorem s_cpy_ok {α β : Type} (h : α → β) (z : α) {l g : List α} {sp dp n : Nat} (hd : dp + n ≤ g.length) : va_cpy (fun i => h (l.getD i z)) (fun i => h (g.getD i z)) sp dp n = fun i => h ((s_cpy z l g sp dp n).getD i z) := by
  funext k
  unfold va_cpy s_cpy
  simp only [List.getD_eq_getElem?_getD, List.getElem?_map]
  by_cases hk : k < g.length
  · rw [List.getElem?_range hk]
    simp only [Option.map_some, Option.getD_some]
    split <;> rfl
  · rw [List.getElem?_eq_none (l := List.range g.length) (by simp; omega), if_neg (by omega), List.getElem?_eq_none (by omega)]
    rfl
end
section
def s_pI {α : Type} (st : List sV) (F : Int32 → List sV → Option α) : Option α := match st with
  | .inl (.int x) :: t => F x t
  | _ => none
theorem s_pI_i {α : Type} {st : List sV} {F : Int32 → List sV → Option α} {r : α} (h : s_pI st F = some r) : ∃ (x : Int32) (t : List sV), st = .inl (.int x) :: t ∧ F x t = some r := by
  unfold s_pI at h
  split at h
  · exact ⟨_, _, rfl, h⟩
  · cases h
def s_pII {α : Type} (st : List sV) (F : Int32 → Int32 → List sV → Option α) : Option α := match st with
  | .inl (.int x2) :: .inl (.int x1) :: t => F x2 x1 t
  | _ => none
theorem s_pII_i {α : Type} {st : List sV} {F : Int32 → Int32 → List sV → Option α} {r : α} (h : s_pII st F = some r) : ∃ (x2 : Int32) (x1 : Int32) (t : List sV), st = .inl (.int x2) :: .inl (.int x1) :: t ∧ F x2 x1 t = some r := by
  unfold s_pII at h
  split at h
  · exact ⟨_, _, _, rfl, h⟩
  · cases h
def s_pL {α : Type} (st : List sV) (F : Int64 → List sV → Option α) : Option α := match st with
  | .inl (.long x) :: t => F x t
  | _ => none
theorem s_pL_i {α : Type} {st : List sV} {F : Int64 → List sV → Option α} {r : α} (h : s_pL st F = some r) : ∃ (x : Int64) (t : List sV), st = .inl (.long x) :: t ∧ F x t = some r := by
  unfold s_pL at h
  split at h
  · exact ⟨_, _, rfl, h⟩
  · cases h
def s_pLL {α : Type} (st : List sV) (F : Int64 → Int64 → List sV → Option α) : Option α := match st with
  | .inl (.long x2) :: .inl (.long x1) :: t => F x2 x1 t
  | _ => none
theorem s_pLL_i {α : Type} {st : List sV} {F : Int64 → Int64 → List sV → Option α} {r : α} (h : s_pLL st F = some r) : ∃ (x2 : Int64) (x1 : Int64) (t : List sV), st = .inl (.long x2) :: .inl (.long x1) :: t ∧ F x2 x1 t = some r := by
  unfold s_pLL at h
  split at h
  · exact ⟨_, _, _, rfl, h⟩
  · cases h
def s_pD {α : Type} (st : List sV) (F : UInt64 → List sV → Option α) : Option α := match st with
  | .inl (.double x) :: t => F x t
  | _ => none
theorem s_pD_i {α : Type} {st : List sV} {F : UInt64 → List sV → Option α} {r : α} (h : s_pD st F = some r) : ∃ (x : UInt64) (t : List sV), st = .inl (.double x) :: t ∧ F x t = some r := by
  unfold s_pD at h
  split at h
  · exact ⟨_, _, rfl, h⟩
  · cases h
def s_pDD {α : Type} (st : List sV) (F : UInt64 → UInt64 → List sV → Option α) : Option α := match st with
  | .inl (.double x2) :: .inl (.double x1) :: t => F x2 x1 t
  | _ => none
theorem s_pDD_i {α : Type} {st : List sV} {F : UInt64 → UInt64 → List sV → Option α} {r : α} (h : s_pDD st F = some r) : ∃ (x2 : UInt64) (x1 : UInt64) (t : List sV), st = .inl (.double x2) :: .inl (.double x1) :: t ∧ F x2 x1 t = some r := by
  unfold s_pDD at h
  split at h
  · exact ⟨_, _, _, rfl, h⟩
  · cases h
def s_pV {α : Type} (st : List sV) (F : sV → List sV → Option α) : Option α := match st with
  | v :: t => F v t
  | _ => none
theorem s_pV_i {α : Type} {st : List sV} {F : sV → List sV → Option α} {r : α} (h : s_pV st F = some r) : ∃ (v : sV) (t : List sV), st = v :: t ∧ F v t = some r := by
  unfold s_pV at h
  split at h
  · exact ⟨_, _, rfl, h⟩
  · cases h
def s_pVV {α : Type} (st : List sV) (F : sV → sV → List sV → Option α) : Option α := match st with
  | v2 :: v1 :: t => F v2 v1 t
  | _ => none
theorem s_pVV_i {α : Type} {st : List sV} {F : sV → sV → List sV → Option α} {r : α} (h : s_pVV st F = some r) : ∃ (v2 : sV) (v1 : sV) (t : List sV), st = v2 :: v1 :: t ∧ F v2 v1 t = some r := by
  unfold s_pVV at h
  split at h
  · exact ⟨_, _, _, rfl, h⟩
  · cases h
def s_pR {α : Type} (st : List sV) (F : Nat → List sV → Option α) : Option α := match st with
  | .inl (.ref a) :: t => F a t
  | _ => none
theorem s_pR_i {α : Type} {st : List sV} {F : Nat → List sV → Option α} {r : α} (h : s_pR st F = some r) : ∃ (a : Nat) (t : List sV), st = .inl (.ref a) :: t ∧ F a t = some r := by
  unfold s_pR at h
  split at h
  · exact ⟨_, _, rfl, h⟩
  · cases h
def s_pRI {α : Type} (st : List sV) (F : Int32 → Nat → List sV → Option α) : Option α := match st with
  | .inl (.int i) :: .inl (.ref a) :: t => F i a t
  | _ => none
theorem s_pRI_i {α : Type} {st : List sV} {F : Int32 → Nat → List sV → Option α} {r : α} (h : s_pRI st F = some r) : ∃ (i : Int32) (a : Nat) (t : List sV), st = .inl (.int i) :: .inl (.ref a) :: t ∧ F i a t = some r := by
  unfold s_pRI at h
  split at h
  · exact ⟨_, _, _, rfl, h⟩
  · cases h
def s_pRVI {α : Type} (st : List sV) (F : sV → Int32 → Nat → List sV → Option α) : Option α := match st with
  | v :: .inl (.int i) :: .inl (.ref a) :: t => F v i a t
  | _ => none
theorem s_pRVI_i {α : Type} {st : List sV} {F : sV → Int32 → Nat → List sV → Option α} {r : α} (h : s_pRVI st F = some r) : ∃ (v : sV) (i : Int32) (a : Nat) (t : List sV), st = v :: .inl (.int i) :: .inl (.ref a) :: t ∧ F v i a t = some r := by
  unfold s_pRVI at h
  split at h
  · exact ⟨_, _, _, _, rfl, h⟩
  · cases h
def s_pRIL {α : Type} (st : List sV) (F : Int64 → Int32 → Nat → List sV → Option α) : Option α := match st with
  | .inl (.long x) :: .inl (.int i) :: .inl (.ref a) :: t => F x i a t
  | _ => none
theorem s_pRIL_i {α : Type} {st : List sV} {F : Int64 → Int32 → Nat → List sV → Option α} {r : α} (h : s_pRIL st F = some r) : ∃ (x : Int64) (i : Int32) (a : Nat) (t : List sV), st = .inl (.long x) :: .inl (.int i) :: .inl (.ref a) :: t ∧ F x i a t = some r := by
  unfold s_pRIL at h
  split at h
  · exact ⟨_, _, _, _, rfl, h⟩
  · cases h
def s_pRIR {α : Type} (st : List sV) (F : Nat → Int32 → Nat → List sV → Option α) : Option α := match st with
  | .inl (.ref v) :: .inl (.int i) :: .inl (.ref a) :: t => F v i a t
  | _ => none
theorem s_pRIR_i {α : Type} {st : List sV} {F : Nat → Int32 → Nat → List sV → Option α} {r : α} (h : s_pRIR st F = some r) : ∃ (v : Nat) (i : Int32) (a : Nat) (t : List sV), st = .inl (.ref v) :: .inl (.int i) :: .inl (.ref a) :: t ∧ F v i a t = some r := by
  unfold s_pRIR at h
  split at h
  · exact ⟨_, _, _, _, rfl, h⟩
  · cases h
def s_pRV {α : Type} (st : List sV) (F : sV → Nat → List sV → Option α) : Option α := match st with
  | v :: .inl (.ref a) :: t => F v a t
  | _ => none
theorem s_pRV_i {α : Type} {st : List sV} {F : sV → Nat → List sV → Option α} {r : α} (h : s_pRV st F = some r) : ∃ (v : sV) (a : Nat) (t : List sV), st = v :: .inl (.ref a) :: t ∧ F v a t = some r := by
  unfold s_pRV at h
  split at h
  · exact ⟨_, _, _, rfl, h⟩
  · cases h
def s_pRVx {α : Type} (st : List sV) (F : sV → Nat → List sV → Option α) : Option α := match st with
  | v :: .inl (.ref a) :: t => F v a t
  | _ => none
theorem s_pRVx_i {α : Type} {st : List sV} {F : sV → Nat → List sV → Option α} {r : α} (h : s_pRVx st F = some r) : ∃ (v : sV) (a : Nat) (t : List sV), st = v :: .inl (.ref a) :: t ∧ F v a t = some r := by
  unfold s_pRVx at h
  split at h
  · exact ⟨_, _, _, rfl, h⟩
  · cases h
abbrev sCf : Type := Nat × sL × List sV × sM × Nat × Nat
def s_isI (v : sV) : Bool := match v with
  | .inl (.int _) => true
  | .inr _ => true
  | _ => false
theorem s_isI_ok (ε : Nat → Int32) {v : sV} (h : s_isI v = true) : s_v ε v = .int (s_i ε v) := by
  unfold s_isI at h
  split at h
  · rfl
  · rfl
  · cases h
def s_put (ty : FieldType) (v : sV) : Bool := match v with
  | .inl w => g_put ty w
  | .inr _ => decide (ty = .int)
theorem s_put_ok (ε : Nat → Int32) {ty : FieldType} {v : sV} (h : s_put ty v = true) : g_put ty (s_v ε v) = true := by
  unfold s_put at h
  split at h
  · exact h
  · next q =>
    have h := of_decide_eq_true h
    subst h
    simp [g_put, s_v, narrow, fits]
def s_st1 (lv : sL) (i : Nat) (v : sV) : sL := (i, v) :: lv.filter (fun q => !(q.1 == i) && !(q.1 + 1 == i && s_cat q.2 == 2))
def s_st2 (lv : sL) (i : Nat) (v : sV) : sL := (i, v) :: lv.filter (fun q => !(q.1 == i) && (!(q.1 == i + 1) && !(q.1 + 1 == i && s_cat q.2 == 2)))
theorem s_st1_ok (ε : Nat → Int32) (lv : sL) (i : Nat) (v : sV) : g_st1 (s_Lv ε lv) i (s_v ε v) = s_Lv ε (s_st1 lv i v) := by
  simp only [s_Lv, g_st1, s_st1, List.map_cons, List.filter_map]
  congr 2
  exact List.filter_congr (fun q _ => by simp only [Function.comp, s_cat_ok])
theorem s_st2_ok (ε : Nat → Int32) (lv : sL) (i : Nat) (v : sV) : g_st2 (s_Lv ε lv) i (s_v ε v) = s_Lv ε (s_st2 lv i v) := by
  simp only [s_Lv, g_st2, s_st2, List.map_cons, List.filter_map]
  congr 2
  exact List.filter_congr (fun q _ => by simp only [Function.comp, s_cat_ok])
def s_dfT : List (List sV) := [[.inl (.int 0), .inl (.int 0), .inl (.int 0), .inl .null],
  [.inl (.int 0), .inl .null, .inl (.int 0)],
  [.inl (.int 0), .inl (.int 0), .inl (.int 0), .inl (.int 0), .inl (.int 0), .inl (.int 0), .inl (.int 0), .inl (.int 0), .inl (.int 0), .inl (.int 0), .inl (.int 0), .inl (.int 0), .inl (.int 0)],
  [.inl .null, .inl (.int 0), .inl (.int 0)],
  [.inl (.int 0), .inl (.int 0), .inl (.int 0), .inl (.int 0), .inl (.int 0), .inl (.int 0)],
  [.inl (.int 0), .inl (.int 0), .inl (.int 0), .inl (.int 0)],
  [.inl .null, .inl (.int 0), .inl .null, .inl (.int 0), .inl (.int 0), .inl (.int 0), .inl (.int 0), .inl (.int 0), .inl (.int 0), .inl (.int 0), .inl (.int 0), .inl (.int 0), .inl (.int 0), .inl (.int 0), .inl (.int 0), .inl (.int 0), .inl (.int 0), .inl (.int 0)],
  [.inl .null, .inl .null, .inl .null, .inl (.int 0), .inl .null],
  [.inl .null, .inl .null, .inl .null, .inl (.int 0), .inl (.int 0), .inl (.int 0), .inl (.int 0), .inl (.int 0), .inl (.int 0), .inl (.int 0), .inl (.int 0), .inl (.int 0), .inl (.int 0), .inl (.int 0), .inl (.int 0)],
  [.inl (.int 0), .inl .null, .inl .null, .inl (.long 0)]]
set_option maxRecDepth 100000 in
theorem s_df_v : (List.range s_dfT.length).all (fun ci => decide (s_dfT.getD ci [] = (g_df ci).map Sum.inl)) = true := by decide +kernel
def s_ftT : List (List FieldType) := [[.int, .int, .int, .object "java/util/ArrayList"],
  [.int, .array (.object "java/lang/Object"), .int],
  [.int, .boolean, .int, .int, .int, .int, .int, .int, .boolean, .boolean, .boolean, .int, .int],
  [.array (.object "FlyTower$Move"), .int, .int],
  [.int, .int, .int, .int, .int, .int],
  [.int, .int, .int, .int],
  [.array (.object "FlyTower$Bar"), .int, .array (.object "FlyTower$Cue"), .int, .int, .int, .int, .int, .boolean, .int, .int, .int, .int, .int, .int, .int, .int, .int],
  [.object "FlyTower$Rig", .object "FlyTower$Rig", .array (.object "FlyTower$Piece"), .int, .array (.int)],
  [.object "java/util/ArrayList", .object "java/util/ArrayList", .array (.int), .int, .int, .int, .boolean, .int, .int, .int, .int, .int, .int, .int, .int],
  [.int, .object "java/util/ArrayList", .object "FlyTowerModel$Tower", .long]]
set_option maxRecDepth 100000 in
theorem s_ft_v : (List.range s_ftT.length).all (fun ci => (List.range (s_ftT.getD ci []).length).all (fun k => decide ((s_ftT.getD ci []).getD k .int = g_ft ci k))) = true := by decide +kernel
def s_df (ci : Nat) : Option (List sV) := s_dfT[ci]?
def s_ft (ci k : Nat) : Option FieldType := (s_ftT[ci]?).bind fun l => l[k]?
theorem s_df_ok (ε : Nat → Int32) {ci : Nat} {l : List sV} (h : s_df ci = some l) : l.map (s_v ε) = g_df ci := by
  have hl : ci < s_dfT.length := (List.getElem?_eq_some_iff.mp h).1
  have h1 := of_decide_eq_true (List.all_eq_true.mp s_df_v ci (List.mem_range.mpr hl))
  rw [List.getD_eq_getElem?_getD, show s_dfT[ci]? = some l from h] at h1
  simp only [Option.getD_some] at h1
  rw [h1, List.map_map]
  exact List.map_id'' (fun _ => rfl) _
theorem s_ft_ok {ci k : Nat} {ty : FieldType} (h : s_ft ci k = some ty) : g_ft ci k = ty := by
  obtain ⟨l, h1, h2⟩ := Option.bind_eq_some_iff.mp h
  have hl : ci < s_ftT.length := (List.getElem?_eq_some_iff.mp h1).1
  have e1 : s_ftT.getD ci [] = l := by rw [List.getD_eq_getElem?_getD, h1]; rfl
  have h3 := List.all_eq_true.mp s_ft_v ci (List.mem_range.mpr hl)
  rw [e1] at h3
  have h4 := of_decide_eq_true (List.all_eq_true.mp h3 k (List.mem_range.mpr (List.getElem?_eq_some_iff.mp h2).1))
  rw [List.getD_eq_getElem?_getD, h2] at h4
  exact h4.symm
def s_okAL : List (Nat × Nat) := [(2, 4), (3, 2), (4, 3), (5, 5)]
def s_okA (tg ci : Nat) : Bool := s_okAL.any (fun q => Nat.beq q.1 tg && Nat.beq q.2 ci)
set_option maxRecDepth 100000 in
theorem s_okAL_v : s_okAL.all (fun q => decide (g_tys[q.1]? = some (.object (g_cl q.2).1)) && decide (q.2 < vwCl.length)) = true := by decide +kernel
theorem s_okA_i {tg ci : Nat} (h : s_okA tg ci = true) : g_tys[tg]? = some (.object (g_cl ci).1) ∧ ci < vwCl.length := by
  obtain ⟨q, hq, h2⟩ := List.any_eq_true.mp h
  simp only [Bool.and_eq_true] at h2
  have h3 := List.all_eq_true.mp s_okAL_v q hq
  simp only [Bool.and_eq_true, decide_eq_true_eq] at h3
  rw [Nat.eq_of_beq_eq_true h2.1, Nat.eq_of_beq_eq_true h2.2] at h3
  exact h3
def s_iniL : List (Nat × Nat) := [(0, 2), (1, 4), (2, 3), (3, 6), (4, 5), (5, 7), (8, 1), (9, 8), (10, 9), (43, 0)]
def s_pf (y ci k : Nat) (host : Option String) : Bool := !((g_cl ci).2.1 k).2.2.2 || (s_iniL.any (fun q => Nat.beq q.1 y && Nat.beq q.2 ci) && (Nat.blt k (g_cl ci).2.2 && host.isNone))
set_option maxRecDepth 100000 in
theorem s_iniL_v : s_iniL.all (fun q => ((gN q.1).name == "<init>") && (List.range (g_cl q.2).2.2).all (fun k => !((g_cl q.2).2.1 k).2.2.2 || (((g_cl q.2).2.1 k).1 == gOwn q.1))) = true := by decide +kernel
theorem s_pf_i {y ci k : Nat} {host : Option String} (h : s_pf y ci k host = true) : g_pf y ci k host = true := by
  unfold s_pf at h
  unfold g_pf
  rcases Bool.or_eq_true_iff.mp h with h1 | h1
  · rw [h1]; rfl
  · simp only [Bool.and_eq_true] at h1
    obtain ⟨h2, h3, h4⟩ := h1
    obtain ⟨q, hq, h5⟩ := List.any_eq_true.mp h2
    simp only [Bool.and_eq_true] at h5
    have h6 := List.all_eq_true.mp s_iniL_v q hq
    rw [Nat.eq_of_beq_eq_true h5.1, Nat.eq_of_beq_eq_true h5.2] at h6
    simp only [Bool.and_eq_true] at h6
    have h7 := List.all_eq_true.mp h6.2 k (List.mem_range.mpr (Nat.le_of_ble_eq_true h3))
    rcases Bool.or_eq_true_iff.mp h7 with h8 | h8
    · rw [h8]; rfl
    · rw [h6.1, h8, h4]; simp
theorem s_ushr0 (x : Int32) : (x.toUInt32 >>> ((0 : Int32).toUInt32 &&& Int32.toUInt32 31)).toInt32 = x := by
  rw [show ((0 : Int32).toUInt32 &&& Int32.toUInt32 31) = 0 by decide]
  simp
def s_x_iconst (v : Int) (L : Nat) (I : sI) (y pc : Nat) (lv : sL) (st : List sV) (m : sM) (c d : Nat) : Option sCf := some (pc + 1, lv, .inl (.int (Int32.ofInt v)) :: st, m, c, d)
def s_x_lconst (v : Fin 2) (L : Nat) (I : sI) (y pc : Nat) (lv : sL) (st : List sV) (m : sM) (c d : Nat) : Option sCf := some (pc + 1, lv, .inl (.long (Int64.ofNat (v : Nat))) :: st, m, c, d)
def s_x_bipush (v : Int) (L : Nat) (I : sI) (y pc : Nat) (lv : sL) (st : List sV) (m : sM) (c d : Nat) : Option sCf := some (pc + 2, lv, .inl (.int (Int8.ofInt v).toInt32) :: st, m, c, d)
def s_x_sipush (v : Int) (L : Nat) (I : sI) (y pc : Nat) (lv : sL) (st : List sV) (m : sM) (c d : Nat) : Option sCf := some (pc + 3, lv, .inl (.int (Int16.ofInt v).toInt32) :: st, m, c, d)
def s_x_aconst_null  (L : Nat) (I : sI) (y pc : Nat) (lv : sL) (st : List sV) (m : sM) (c d : Nat) : Option sCf := some (pc + 1, lv, .inl (.null) :: st, m, c, d)
def s_x_iadd  (L : Nat) (I : sI) (y pc : Nat) (lv : sL) (st : List sV) (m : sM) (c d : Nat) : Option sCf := match st with
    | .inl (.int x2) :: .inl (.int x1) :: t => some (pc + 1, lv, .inl (.int (x1 + x2)) :: t, m, c, d)
    | .inl (.int x2) :: .inr q :: t => some (pc + 1, lv, .inr (q.1, q.2 + x2) :: t, m, c, d)
    | .inr q :: .inl (.int x1) :: t => some (pc + 1, lv, .inr (q.1, q.2 + x1) :: t, m, c, d)
    | _ => none
def s_x_isub  (L : Nat) (I : sI) (y pc : Nat) (lv : sL) (st : List sV) (m : sM) (c d : Nat) : Option sCf := s_pII st fun x2 x1 t => some (pc + 1, lv, .inl (.int (x1 - x2)) :: t, m, c, d)
def s_x_imul  (L : Nat) (I : sI) (y pc : Nat) (lv : sL) (st : List sV) (m : sM) (c d : Nat) : Option sCf := s_pII st fun x2 x1 t => some (pc + 1, lv, .inl (.int (x1 * x2)) :: t, m, c, d)
def s_x_iand  (L : Nat) (I : sI) (y pc : Nat) (lv : sL) (st : List sV) (m : sM) (c d : Nat) : Option sCf := match st with
    | .inl (.int x2) :: .inl (.int x1) :: t => some (pc + 1, lv, .inl (.int (x1 &&& x2)) :: t, m, c, d)
    | .inl (.int x2) :: .inr q :: t => if x2 = 31 ∧ q = (0, 0) then some (pc + 1, lv, s_rs I (.inr (6, 0)) :: t, m, c, d) else none
    | _ => none
def s_x_ior  (L : Nat) (I : sI) (y pc : Nat) (lv : sL) (st : List sV) (m : sM) (c d : Nat) : Option sCf := s_pII st fun x2 x1 t => some (pc + 1, lv, .inl (.int (x1 ||| x2)) :: t, m, c, d)
def s_x_ishl  (L : Nat) (I : sI) (y pc : Nat) (lv : sL) (st : List sV) (m : sM) (c d : Nat) : Option sCf := s_pII st fun x2 x1 t => some (pc + 1, lv, .inl (.int (x1 <<< (x2 &&& 31))) :: t, m, c, d)
def s_x_ishr  (L : Nat) (I : sI) (y pc : Nat) (lv : sL) (st : List sV) (m : sM) (c d : Nat) : Option sCf := s_pII st fun x2 x1 t => some (pc + 1, lv, .inl (.int (x1 >>> (x2 &&& 31))) :: t, m, c, d)
def s_x_iushr  (L : Nat) (I : sI) (y pc : Nat) (lv : sL) (st : List sV) (m : sM) (c d : Nat) : Option sCf := match st with
    | .inl (.int x2) :: .inl (.int x1) :: t => some (pc + 1, lv, .inl (.int (x1.toUInt32 >>> (x2.toUInt32 &&& Int32.toUInt32 31)).toInt32) :: t, m, c, d)
    | .inl (.int x2) :: .inr q :: t => if x2 = 0 then some (pc + 1, lv, .inr q :: t, m, c, d) else none
    | _ => none
def s_x_ineg  (L : Nat) (I : sI) (y pc : Nat) (lv : sL) (st : List sV) (m : sM) (c d : Nat) : Option sCf := s_pI st fun x t => some (pc + 1, lv, .inl (.int (-x)) :: t, m, c, d)
def s_x_i2l  (L : Nat) (I : sI) (y pc : Nat) (lv : sL) (st : List sV) (m : sM) (c d : Nat) : Option sCf := s_pI st fun x t => some (pc + 1, lv, .inl (.long x.toInt64) :: t, m, c, d)
def s_x_ladd  (L : Nat) (I : sI) (y pc : Nat) (lv : sL) (st : List sV) (m : sM) (c d : Nat) : Option sCf := s_pLL st fun x2 x1 t => some (pc + 1, lv, .inl (.long (x1 + x2)) :: t, m, c, d)
def s_x_lmul  (L : Nat) (I : sI) (y pc : Nat) (lv : sL) (st : List sV) (m : sM) (c d : Nat) : Option sCf := s_pLL st fun x2 x1 t => some (pc + 1, lv, .inl (.long (x1 * x2)) :: t, m, c, d)
def s_x_lcmp  (L : Nat) (I : sI) (y pc : Nat) (lv : sL) (st : List sV) (m : sM) (c d : Nat) : Option sCf := s_pLL st fun x2 x1 t => some (pc + 1, lv, .inl (.int (lg_cmp x1 x2)) :: t, m, c, d)
def s_x_dcmp (op : CmpOp) (L : Nat) (I : sI) (y pc : Nat) (lv : sL) (st : List sV) (m : sM) (c d : Nat) : Option sCf := s_pDD st fun x2 x1 t => some (pc + 1, lv, .inl (.int (Op.cmpValue (FP.dcmp x1 x2) op)) :: t, m, c, d)
def s_x_dconst (v : Fin 2) (L : Nat) (I : sI) (y pc : Nat) (lv : sL) (st : List sV) (m : sM) (c d : Nat) : Option sCf := if v = 0 then some (pc + 1, lv, .inl (.double FP.dconst0) :: st, m, c, d) else none
def s_x_dup  (L : Nat) (I : sI) (y pc : Nat) (lv : sL) (st : List sV) (m : sM) (c d : Nat) : Option sCf := s_pV st fun v t => if s_cat v = 1 then some (pc + 1, lv, v :: v :: t, m, c, d) else none
def s_x_pop  (L : Nat) (I : sI) (y pc : Nat) (lv : sL) (st : List sV) (m : sM) (c d : Nat) : Option sCf := s_pV st fun v t => if s_cat v = 1 then some (pc + 1, lv, t, m, c, d) else none
def s_x_dup_x1  (L : Nat) (I : sI) (y pc : Nat) (lv : sL) (st : List sV) (m : sM) (c d : Nat) : Option sCf := s_pVV st fun v2 v1 t => if s_cat v2 = 1 ∧ s_cat v1 = 1 then some (pc + 1, lv, v2 :: v1 :: v2 :: t, m, c, d) else none
def s_x_dup2  (L : Nat) (I : sI) (y pc : Nat) (lv : sL) (st : List sV) (m : sM) (c d : Nat) : Option sCf := s_pVV st fun v2 v1 t => if s_cat v2 = 1 ∧ s_cat v1 = 1 then some (pc + 1, lv, v2 :: v1 :: v2 :: v1 :: t, m, c, d) else none
def s_x_iload (i : Nat) (L : Nat) (I : sI) (y pc : Nat) (lv : sL) (st : List sV) (m : sM) (c d : Nat) : Option sCf := match lv.lookup i with
    | some (.inl (.int x)) => some (pc + 2, lv, .inl (.int x) :: st, m, c, d)
    | some (.inr q) => some (pc + 2, lv, s_rs I (.inr q) :: st, m, c, d)
    | _ => none
def s_x_iload_n (i : Fin 4) (L : Nat) (I : sI) (y pc : Nat) (lv : sL) (st : List sV) (m : sM) (c d : Nat) : Option sCf := match lv.lookup (i : Nat) with
    | some (.inl (.int x)) => some (pc + 1, lv, .inl (.int x) :: st, m, c, d)
    | some (.inr q) => some (pc + 1, lv, s_rs I (.inr q) :: st, m, c, d)
    | _ => none
def s_x_lload (i : Nat) (L : Nat) (I : sI) (y pc : Nat) (lv : sL) (st : List sV) (m : sM) (c d : Nat) : Option sCf := match lv.lookup i with
    | some (.inl (.long x)) => some (pc + 2, lv, .inl (.long x) :: st, m, c, d)
    | _ => none
def s_x_lload_n (i : Fin 4) (L : Nat) (I : sI) (y pc : Nat) (lv : sL) (st : List sV) (m : sM) (c d : Nat) : Option sCf := match lv.lookup (i : Nat) with
    | some (.inl (.long x)) => some (pc + 1, lv, .inl (.long x) :: st, m, c, d)
    | _ => none
def s_x_dload (i : Nat) (L : Nat) (I : sI) (y pc : Nat) (lv : sL) (st : List sV) (m : sM) (c d : Nat) : Option sCf := match lv.lookup i with
    | some (.inl (.double x)) => some (pc + 2, lv, .inl (.double x) :: st, m, c, d)
    | _ => none
def s_x_dload_n (i : Fin 4) (L : Nat) (I : sI) (y pc : Nat) (lv : sL) (st : List sV) (m : sM) (c d : Nat) : Option sCf := match lv.lookup (i : Nat) with
    | some (.inl (.double x)) => some (pc + 1, lv, .inl (.double x) :: st, m, c, d)
    | _ => none
def s_x_aload (i : Nat) (L : Nat) (I : sI) (y pc : Nat) (lv : sL) (st : List sV) (m : sM) (c d : Nat) : Option sCf := match lv.lookup i with
    | some (.inl (.ref x)) => some (pc + 2, lv, .inl (.ref x) :: st, m, c, d)
    | _ => none
def s_x_aload_n (i : Fin 4) (L : Nat) (I : sI) (y pc : Nat) (lv : sL) (st : List sV) (m : sM) (c d : Nat) : Option sCf := match lv.lookup (i : Nat) with
    | some (.inl (.ref x)) => some (pc + 1, lv, .inl (.ref x) :: st, m, c, d)
    | _ => none
def s_x_istore (i : Nat) (L : Nat) (I : sI) (y pc : Nat) (lv : sL) (st : List sV) (m : sM) (c d : Nat) : Option sCf := s_pV st fun v t => if i < s_lo y ∧ s_isI v = true then some (pc + 2, s_st1 lv i v, t, m, c, d) else none
def s_x_istore_n (i : Fin 4) (L : Nat) (I : sI) (y pc : Nat) (lv : sL) (st : List sV) (m : sM) (c d : Nat) : Option sCf := s_pV st fun v t => if (i : Nat) < s_lo y ∧ s_isI v = true then some (pc + 1, s_st1 lv (i : Nat) v, t, m, c, d) else none
def s_x_lstore (i : Nat) (L : Nat) (I : sI) (y pc : Nat) (lv : sL) (st : List sV) (m : sM) (c d : Nat) : Option sCf := s_pL st fun x t => if i + 1 < s_lo y then some (pc + 2, s_st2 lv i (.inl (.long x)), t, m, c, d) else none
def s_x_lstore_n (i : Fin 4) (L : Nat) (I : sI) (y pc : Nat) (lv : sL) (st : List sV) (m : sM) (c d : Nat) : Option sCf := s_pL st fun x t => if (i : Nat) + 1 < s_lo y then some (pc + 1, s_st2 lv (i : Nat) (.inl (.long x)), t, m, c, d) else none
def s_x_dstore (i : Nat) (L : Nat) (I : sI) (y pc : Nat) (lv : sL) (st : List sV) (m : sM) (c d : Nat) : Option sCf := s_pD st fun x t => if i + 1 < s_lo y then some (pc + 2, s_st2 lv i (.inl (.double x)), t, m, c, d) else none
def s_x_dstore_n (i : Fin 4) (L : Nat) (I : sI) (y pc : Nat) (lv : sL) (st : List sV) (m : sM) (c d : Nat) : Option sCf := s_pD st fun x t => if (i : Nat) + 1 < s_lo y then some (pc + 1, s_st2 lv (i : Nat) (.inl (.double x)), t, m, c, d) else none
def s_x_astore (i : Nat) (L : Nat) (I : sI) (y pc : Nat) (lv : sL) (st : List sV) (m : sM) (c d : Nat) : Option sCf := s_pR st fun a t => if i < s_lo y then some (pc + 2, s_st1 lv i (.inl (.ref a)), t, m, c, d) else none
def s_x_astore_n (i : Fin 4) (L : Nat) (I : sI) (y pc : Nat) (lv : sL) (st : List sV) (m : sM) (c d : Nat) : Option sCf := s_pR st fun a t => if (i : Nat) < s_lo y then some (pc + 1, s_st1 lv (i : Nat) (.inl (.ref a)), t, m, c, d) else none
def s_x_iinc (i : Nat) (v : Int) (L : Nat) (I : sI) (y pc : Nat) (lv : sL) (st : List sV) (m : sM) (c d : Nat) : Option sCf := match lv.lookup i with
    | some (.inl (.int x)) => if i < s_lo y then some (pc + 3, s_st1 lv i (.inl (.int (x + Int32.ofInt v))), st, m, c, d) else none
    | some (.inr q) => if i < s_lo y then some (pc + 3, s_st1 lv i (.inr (q.1, q.2 + Int32.ofInt v)), st, m, c, d) else none
    | _ => none
def s_x_ifCond (cd : Jvm.ClassFile.Cond) (off : Int) (L : Nat) (I : sI) (y pc : Nat) (lv : sL) (st : List sV) (m : sM) (c d : Nat) : Option sCf := (g_tg pc off).bind fun tg => match st with
    | .inl (.int x) :: t => some (if g_c1 cd x then tg else pc + 3, lv, t, m, c, d)
    | .inr q :: t => if q.2 = 0 then (s_cmp I q.1 0).bind fun o => some (if s_o cd o then tg else pc + 3, lv, t, m, c, d) else none
    | _ => none
def s_x_if_icmp (cd : Jvm.ClassFile.Cond) (off : Int) (L : Nat) (I : sI) (y pc : Nat) (lv : sL) (st : List sV) (m : sM) (c d : Nat) : Option sCf := (g_tg pc off).bind fun tg => match st with
    | .inl (.int x2) :: .inl (.int x1) :: t => some (if g_c2 cd x1 x2 then tg else pc + 3, lv, t, m, c, d)
    | .inl (.int x2) :: .inr q :: t => if q.2 = 0 then (s_cmp I q.1 x2.toInt).bind fun o => some (if s_o cd o then tg else pc + 3, lv, t, m, c, d) else none
    | .inr q :: .inl (.int x1) :: t => if q.2 = 0 then (s_cmp I q.1 x1.toInt).bind fun o => some (if s_o cd (s_sw o) then tg else pc + 3, lv, t, m, c, d) else none
    | _ => none
def s_x_goto (off : Int) (L : Nat) (I : sI) (y pc : Nat) (lv : sL) (st : List sV) (m : sM) (c d : Nat) : Option sCf := (g_tg pc off).bind fun tg => some (tg, lv, st, m, c, d)
def s_x_tableswitch (df : Int) (lo : Int) (hi : Int) (offs : Array Int) (L : Nat) (I : sI) (y pc : Nat) (lv : sL) (st : List sV) (m : sM) (c d : Nat) : Option sCf := match st with
    | v :: t => match s_rs I v with
      | .inl (.int x) => if x.toInt < lo ∨ hi < x.toInt then (g_tg pc df).bind fun tg => some (tg, lv, t, m, c, d) else (offs[(x.toInt - lo).toNat]?).bind fun off => (g_tg pc off).bind fun tg => some (tg, lv, t, m, c, d)
      | .inr q => if q.2 = 0 then (match I[q.1]? with
        | some r => if r.2 < lo ∨ hi < r.1 then (g_tg pc df).bind fun tg => some (tg, lv, t, m, c, d) else none
        | none => none) else none
      | _ => none
    | _ => none
def s_x_ldc (ix : Nat) (L : Nat) (I : sI) (y pc : Nat) (lv : sL) (st : List sV) (m : sM) (c d : Nat) : Option sCf := match gCs y ix with
    | some (.int x, _) => some (pc + 2, lv, .inl (.int x) :: st, m, c, d)
    | _ => none
def s_x_ldc2_w (ix : Nat) (L : Nat) (I : sI) (y pc : Nat) (lv : sL) (st : List sV) (m : sM) (c d : Nat) : Option sCf := match gCs y ix with
    | some (.long x, _) => some (pc + 3, lv, .inl (.long x) :: st, m, c, d)
    | _ => none
def s_x_getfield (ix : Nat) (L : Nat) (I : sI) (y pc : Nat) (lv : sL) (st : List sV) (m : sM) (c d : Nat) : Option sCf := match s_fld y ix with
    | none => none
    | some (ci, k, _, _, _) => s_pR st fun a t => match s_rd m a with
      | some (.inl (cj, fs)) => if cj = ci then (fs[k]?).bind fun v => some (pc + 3, lv, s_rs I v :: t, m, c, d) else none
      | _ => none
def s_x_putfield (ix : Nat) (L : Nat) (I : sI) (y pc : Nat) (lv : sL) (st : List sV) (m : sM) (c d : Nat) : Option sCf := match s_fld y ix with
    | none => none
    | some (ci, k, _, host, _) => s_pRV st fun v a t => match s_rd m a, s_ft ci k with
      | some (.inl (cj, fs)), some ty => if cj = ci ∧ k < fs.length ∧ s_put ty v = true ∧ s_ok m.1 v = true ∧ s_pf y ci k host = true then some (pc + 3, lv, t, s_wr m a (some (.inl (ci, fs.set k v))), c, d) else none
      | _, _ => none
def s_x_new (ix : Nat) (L : Nat) (I : sI) (y pc : Nat) (lv : sL) (st : List sV) (m : sM) (c d : Nat) : Option sCf := match gNw y ix with
    | none => none
    | some (ci, _, _, _) => match s_df ci with
      | some l => if s_can m = true ∧ lv.all (fun q => s_ok m.1 q.2) = true ∧ st.all (s_ok m.1) = true then some (pc + 3, lv, .inl (.ref m.1) :: st, s_nw m (some (.inl (ci, l))), c + 1, d + (g_cl ci).2.2) else none
      | none => none
def s_x_newarray (at_ : ArrayType) (L : Nat) (I : sI) (y pc : Nat) (lv : sL) (st : List sV) (m : sM) (c d : Nat) : Option sCf := s_pI st fun x t => if ¬ x < 0 ∧ x.toNatClampNeg ≤ 65536 ∧ s_can m = true ∧ lv.all (fun q => s_ok m.1 q.2) = true ∧ t.all (s_ok m.1) = true then (match at_ with
      | .int => some (pc + 2, lv, .inl (.ref m.1) :: t, s_nw m (some (.inr (0, .inl (List.replicate x.toNatClampNeg (.inl (.int 0)))))), c + 1, d + x.toNatClampNeg)
      | .long => some (pc + 2, lv, .inl (.ref m.1) :: t, s_nw m (some (.inr (1, .inr (.inl (List.replicate x.toNatClampNeg 0))))), c + 1, d + x.toNatClampNeg)
      | _ => none) else none
def s_x_anewarray (ix : Nat) (L : Nat) (I : sI) (y pc : Nat) (lv : sL) (st : List sV) (m : sM) (c d : Nat) : Option sCf := match gAn y ix with
    | none => none
    | some (tg, _, _) => s_pI st fun x t => if ¬ x < 0 ∧ x.toNatClampNeg ≤ 65536 ∧ s_can m = true ∧ lv.all (fun q => s_ok m.1 q.2) = true ∧ t.all (s_ok m.1) = true then some (pc + 3, lv, .inl (.ref m.1) :: t, s_nw m (some (.inr (tg, .inr (.inr (List.replicate x.toNatClampNeg none))))), c + 1, d + x.toNatClampNeg) else none
def s_x_arraylength  (L : Nat) (I : sI) (y pc : Nat) (lv : sL) (st : List sV) (m : sM) (c d : Nat) : Option sCf := s_pR st fun a t => if a = 0 then some (pc + 1, lv, .inl (.int (Int32.ofNat L)) :: t, m, c, d) else if a = 1 then some (pc + 1, lv, .inl (.int 0) :: t, m, c, d) else match s_rd m a with
      | some (.inr (_, .inl l)) => some (pc + 1, lv, .inl (.int (Int32.ofNat l.length)) :: t, m, c, d)
      | some (.inr (_, .inr (.inl l))) => some (pc + 1, lv, .inl (.int (Int32.ofNat l.length)) :: t, m, c, d)
      | some (.inr (_, .inr (.inr l))) => some (pc + 1, lv, .inl (.int (Int32.ofNat l.length)) :: t, m, c, d)
      | _ => none
def s_x_iaload  (L : Nat) (I : sI) (y pc : Nat) (lv : sL) (st : List sV) (m : sM) (c d : Nat) : Option sCf := s_pRVx st fun v a t => match s_rs I v with
      | .inl (.int i) => if a = 0 then (if g_ix i L = true then some (pc + 1, lv, s_rs I (.inr (i.toNatClampNeg, 0)) :: t, m, c, d) else none) else match s_rd m a with
        | some (.inr (0, .inl l)) => if g_ix i l.length = true ∧ s_isI (l.getD i.toNatClampNeg (.inl (.int 0))) = true then some (pc + 1, lv, s_rs I (l.getD i.toNatClampNeg (.inl (.int 0))) :: t, m, c, d) else none
        | _ => none
      | _ => none
def s_x_laload  (L : Nat) (I : sI) (y pc : Nat) (lv : sL) (st : List sV) (m : sM) (c d : Nat) : Option sCf := s_pRI st fun i a t => match s_rd m a with
      | some (.inr (1, .inr (.inl l))) => if g_ix i l.length = true then some (pc + 1, lv, .inl (.long (l.getD i.toNatClampNeg 0)) :: t, m, c, d) else none
      | _ => none
def s_x_aaload  (L : Nat) (I : sI) (y pc : Nat) (lv : sL) (st : List sV) (m : sM) (c d : Nat) : Option sCf := s_pRI st fun i a t => match s_rd m a with
      | some (.inr (tg, .inr (.inr l))) => if g_ix i l.length = true ∧ g_obj tg = true then some (pc + 1, lv, .inl (va_rf (l.getD i.toNatClampNeg none)) :: t, m, c, d) else none
      | _ => none
def s_x_iastore  (L : Nat) (I : sI) (y pc : Nat) (lv : sL) (st : List sV) (m : sM) (c d : Nat) : Option sCf := s_pRVI st fun v i a t => match s_rd m a with
      | some (.inr (0, .inl l)) => if g_ix i l.length = true ∧ s_isI v = true then some (pc + 1, lv, t, s_wr m a (some (.inr (0, .inl (l.set i.toNatClampNeg v)))), c, d) else none
      | _ => none
def s_x_lastore  (L : Nat) (I : sI) (y pc : Nat) (lv : sL) (st : List sV) (m : sM) (c d : Nat) : Option sCf := s_pRIL st fun x i a t => match s_rd m a with
      | some (.inr (1, .inr (.inl l))) => if g_ix i l.length = true then some (pc + 1, lv, t, s_wr m a (some (.inr (1, .inr (.inl (l.set i.toNatClampNeg x))))), c, d) else none
      | _ => none
def s_x_aastore  (L : Nat) (I : sI) (y pc : Nat) (lv : sL) (st : List sV) (m : sM) (c d : Nat) : Option sCf := s_pRIR st fun v i a t => match s_rd m a, s_rd m v with
      | some (.inr (tg, .inr (.inr l))), some (.inl (ci, _)) => if g_ix i l.length = true ∧ s_okA tg ci = true then some (pc + 1, lv, t, s_wr m a (some (.inr (tg, .inr (.inr (l.set i.toNatClampNeg (some v)))))), c, d) else if g_ix i l.length = true ∧ g_casO tg ci = true then some (pc + 1, lv, t, s_wr m a (some (.inr (tg, .inr (.inr (l.set i.toNatClampNeg (some v)))))), c, d) else none
      | some (.inr (tg, .inr (.inr l))), some (.inr (0, .inl _)) => if g_ix i l.length = true ∧ g_casI tg = true then some (pc + 1, lv, t, s_wr m a (some (.inr (tg, .inr (.inr (l.set i.toNatClampNeg (some v)))))), c, d) else none
      | _, _ => none
def s_x_invokestatic (ix : Nat) (L : Nat) (I : sI) (y pc : Nat) (lv : sL) (st : List sV) (m : sM) (c d : Nat) : Option sCf := match s_iv y ix with
    | some (_, _, 101, _) => s_pII st fun x2 x1 t => if (t.map s_cat).sum ≤ 8 ∧ 1 ≤ gF y ∧ 21 ≤ gW y then some (pc + 3, lv, .inl (.int (if x1 < x2 then x2 else x1)) :: t, m, c, d) else none
    | some (_, _, 102, _) => s_pII st fun x2 x1 t => if (t.map s_cat).sum ≤ 8 ∧ 1 ≤ gF y ∧ 21 ≤ gW y then some (pc + 3, lv, .inl (.int (if x2 < x1 then x2 else x1)) :: t, m, c, d) else none
    | some (_, _, 104, _) => match st with
      | .inl (.int n) :: .inl (.int dp) :: .inl (.ref a) :: .inl (.int sp) :: .inl (.ref a0) :: t => match s_rd m a0, s_rd m a with
        | some (.inr (0, .inl f)), some (.inr (0, .inl g)) => if ¬ sp < 0 ∧ ¬ dp < 0 ∧ ¬ n < 0 ∧ sp.toNatClampNeg + n.toNatClampNeg ≤ f.length ∧ dp.toNatClampNeg + n.toNatClampNeg ≤ g.length ∧ (t.map s_cat).sum ≤ 8 ∧ 1 ≤ gF y ∧ 26 ≤ gW y then some (pc + 3, lv, t, s_wr m a (some (.inr (0, .inl (s_cpy (.inl (.int 0)) f g sp.toNatClampNeg dp.toNatClampNeg n.toNatClampNeg)))), c, d) else none
        | _, _ => none
      | _ => none
    | _ => none
def s_x_getstatic (ix : Nat) (L : Nat) (I : sI) (y pc : Nat) (lv : sL) (st : List sV) (m : sM) (c d : Nat) : Option sCf := match gSt y ix with
    | some _ => some (pc + 3, lv, .inl (.ref 1) :: st, m, c, d)
    | none => none
def s_x_if_acmp (cd : ACond) (off : Int) (L : Nat) (I : sI) (y pc : Nat) (lv : sL) (st : List sV) (m : sM) (c d : Nat) : Option sCf := (g_tg pc off).bind fun tg => match st with
    | .inl (.ref a2) :: .inl (.ref a1) :: t => if a1 = a2 then (match cd with
      | .eq => some (tg, lv, t, m, c, d)
      | .ne => some (pc + 3, lv, t, m, c, d)) else none
    | _ => none
def s_x_invokespecial (ix : Nat) (L : Nat) (I : sI) (y pc : Nat) (lv : sL) (st : List sV) (m : sM) (c d : Nat) : Option sCf := match s_iv y ix with
    | some (_, _, 100, _) => s_pR st fun a t => if (t.map s_cat).sum ≤ 8 ∧ 1 ≤ gF y ∧ 21 ≤ gW y then some (pc + 3, lv, t, m, c, d) else none
    | _ => none
abbrev sFn : Type := Nat → sI → Nat → Nat → sL → List sV → sM → Nat → Nat → Option sCf
def s_x_no : sFn := fun _ _ _ _ _ _ _ _ _ => none
def s_fx (i : Instr) : sFn := match i with
  | .iconst v => s_x_iconst v
  | .lconst v => s_x_lconst v
  | .bipush v => s_x_bipush v
  | .sipush v => s_x_sipush v
  | .aconst_null => s_x_aconst_null
  | .iadd => s_x_iadd
  | .isub => s_x_isub
  | .imul => s_x_imul
  | .iand => s_x_iand
  | .ior => s_x_ior
  | .ishl => s_x_ishl
  | .ishr => s_x_ishr
  | .iushr => s_x_iushr
  | .ineg => s_x_ineg
  | .i2l => s_x_i2l
  | .ladd => s_x_ladd
  | .lmul => s_x_lmul
  | .lcmp => s_x_lcmp
  | .dcmp op => s_x_dcmp op
  | .dconst v => s_x_dconst v
  | .dup => s_x_dup
  | .pop => s_x_pop
  | .dup_x1 => s_x_dup_x1
  | .dup2 => s_x_dup2
  | .iload i => s_x_iload i
  | .iload_n i => s_x_iload_n i
  | .lload i => s_x_lload i
  | .lload_n i => s_x_lload_n i
  | .dload i => s_x_dload i
  | .dload_n i => s_x_dload_n i
  | .aload i => s_x_aload i
  | .aload_n i => s_x_aload_n i
  | .istore i => s_x_istore i
  | .istore_n i => s_x_istore_n i
  | .lstore i => s_x_lstore i
  | .lstore_n i => s_x_lstore_n i
  | .dstore i => s_x_dstore i
  | .dstore_n i => s_x_dstore_n i
  | .astore i => s_x_astore i
  | .astore_n i => s_x_astore_n i
  | .iinc i v => s_x_iinc i v
  | .ifCond cd off => s_x_ifCond cd off
  | .if_icmp cd off => s_x_if_icmp cd off
  | .goto off => s_x_goto off
  | .tableswitch df lo hi offs => s_x_tableswitch df lo hi offs
  | .ldc ix => s_x_ldc ix
  | .ldc2_w ix => s_x_ldc2_w ix
  | .getfield ix => s_x_getfield ix
  | .putfield ix => s_x_putfield ix
  | .new ix => s_x_new ix
  | .newarray at_ => s_x_newarray at_
  | .anewarray ix => s_x_anewarray ix
  | .arraylength => s_x_arraylength
  | .iaload => s_x_iaload
  | .laload => s_x_laload
  | .aaload => s_x_aaload
  | .iastore => s_x_iastore
  | .lastore => s_x_lastore
  | .aastore => s_x_aastore
  | .invokestatic ix => s_x_invokestatic ix
  | .getstatic ix => s_x_getstatic ix
  | .if_acmp cd off => s_x_if_acmp cd off
  | .invokespecial ix => s_x_invokespecial ix
  | _ => s_x_no
/-- one step of the symbolic run; none: not told here -/
def s_stp (L : Nat) (I : sI) (y : Nat) (i : Instr) (pc : Nat) (lv : sL) (st : List sV) (m : sM) (c d : Nat) : Option sCf := s_fx i L I y pc lv st m c d
/-- a plain instruction: what it does; 0: a return, 1: it may part the run, 2: a call -/
def s_fn (i : Instr) : sFn ⊕ Nat := match i with
  | .iconst v => .inl (s_x_iconst v)
  | .lconst v => .inl (s_x_lconst v)
  | .bipush v => .inl (s_x_bipush v)
  | .sipush v => .inl (s_x_sipush v)
  | .aconst_null => .inl s_x_aconst_null
  | .iadd => .inl s_x_iadd
  | .isub => .inl s_x_isub
  | .imul => .inl s_x_imul
  | .iand => .inl s_x_iand
  | .ior => .inl s_x_ior
  | .ishl => .inl s_x_ishl
  | .ishr => .inl s_x_ishr
  | .iushr => .inl s_x_iushr
  | .ineg => .inl s_x_ineg
  | .i2l => .inl s_x_i2l
  | .ladd => .inl s_x_ladd
  | .lmul => .inl s_x_lmul
  | .lcmp => .inl s_x_lcmp
  | .dcmp op => .inl (s_x_dcmp op)
  | .dconst v => .inl (s_x_dconst v)
  | .dup => .inl s_x_dup
  | .pop => .inl s_x_pop
  | .dup_x1 => .inl s_x_dup_x1
  | .dup2 => .inl s_x_dup2
  | .iload i => .inl (s_x_iload i)
  | .iload_n i => .inl (s_x_iload_n i)
  | .lload i => .inl (s_x_lload i)
  | .lload_n i => .inl (s_x_lload_n i)
  | .dload i => .inl (s_x_dload i)
  | .dload_n i => .inl (s_x_dload_n i)
  | .aload i => .inl (s_x_aload i)
  | .aload_n i => .inl (s_x_aload_n i)
  | .istore i => .inl (s_x_istore i)
  | .istore_n i => .inl (s_x_istore_n i)
  | .lstore i => .inl (s_x_lstore i)
  | .lstore_n i => .inl (s_x_lstore_n i)
  | .dstore i => .inl (s_x_dstore i)
  | .dstore_n i => .inl (s_x_dstore_n i)
  | .astore i => .inl (s_x_astore i)
  | .astore_n i => .inl (s_x_astore_n i)
  | .iinc i v => .inl (s_x_iinc i v)
  | .ifCond cd off => .inr 1
  | .if_icmp cd off => .inr 1
  | .goto off => .inl (s_x_goto off)
  | .tableswitch df lo hi offs => .inr 1
  | .ldc ix => .inl (s_x_ldc ix)
  | .ldc2_w ix => .inl (s_x_ldc2_w ix)
  | .getfield ix => .inl (s_x_getfield ix)
  | .putfield ix => .inl (s_x_putfield ix)
  | .new ix => .inl (s_x_new ix)
  | .newarray at_ => .inl (s_x_newarray at_)
  | .anewarray ix => .inl (s_x_anewarray ix)
  | .arraylength => .inl s_x_arraylength
  | .iaload => .inr 1
  | .laload => .inl s_x_laload
  | .aaload => .inl s_x_aaload
  | .iastore => .inl s_x_iastore
  | .lastore => .inl s_x_lastore
  | .aastore => .inl s_x_aastore
  | .invokestatic ix => .inr 2
  | .getstatic ix => .inl (s_x_getstatic ix)
  | .if_acmp cd off => .inl (s_x_if_acmp cd off)
  | .invokespecial ix => .inr 2
  | .ireturn => .inr 0
  | .lreturn => .inr 0
  | .dreturn => .inr 0
  | .areturn => .inr 0
  | .return_ => .inr 0
  | .invokevirtual _ => .inr 2
  | .invokeinterface _ _ => .inr 2
  | _ => .inr 3
end
section
set_option maxHeartbeats 4000000 in
set_option maxRecDepth 20000 in
theorem s_stp_ok {xs ε : Nat → Int32} {L : Nat} {I : sI} (hI : s_sat ε I) (hL : L ≤ 6) (hxs : ∀ n, n < 6 → ε n = xs n) (h6 : ε 6 = ε 0 &&& 31) {y pc : Nat} {i : Instr} {lv : sL} {st : List sV} {m : sM} (hm : s_wf m) {c d : Nat} {q : sCf} (h : s_stp L I y i pc lv st m c d = some q) :
    g_stp xs L y i pc (s_Lv ε lv) (s_S ε st) (s_M ε m) c d = some (q.1, s_Lv ε q.2.1, s_S ε q.2.2.1, s_M ε q.2.2.2.1, q.2.2.2.2.1, q.2.2.2.2.2) ∧ m.1 ≤ q.2.2.2.1.1 ∧ c ≤ q.2.2.2.2.1 ∧ d ≤ q.2.2.2.2.2 ∧ s_wf q.2.2.2.1 := by
  cases i with
  | iconst v =>
    simp only [s_stp, s_fx, s_x_iconst, s_lo_eq, s_fld_eq, s_iv_eq] at h
    cases h
    exact ⟨rfl, Nat.le_refl _, Nat.le_refl _, Nat.le_refl _, hm⟩
  | lconst v =>
    simp only [s_stp, s_fx, s_x_lconst, s_lo_eq, s_fld_eq, s_iv_eq] at h
    cases h
    exact ⟨rfl, Nat.le_refl _, Nat.le_refl _, Nat.le_refl _, hm⟩
  | bipush v =>
    simp only [s_stp, s_fx, s_x_bipush, s_lo_eq, s_fld_eq, s_iv_eq] at h
    cases h
    exact ⟨rfl, Nat.le_refl _, Nat.le_refl _, Nat.le_refl _, hm⟩
  | sipush v =>
    simp only [s_stp, s_fx, s_x_sipush, s_lo_eq, s_fld_eq, s_iv_eq] at h
    cases h
    exact ⟨rfl, Nat.le_refl _, Nat.le_refl _, Nat.le_refl _, hm⟩
  | aconst_null =>
    simp only [s_stp, s_fx, s_x_aconst_null, s_lo_eq, s_fld_eq, s_iv_eq] at h
    cases h
    exact ⟨rfl, Nat.le_refl _, Nat.le_refl _, Nat.le_refl _, hm⟩
  | iadd =>
    simp only [s_stp, s_fx, s_x_iadd, s_lo_eq, s_fld_eq, s_iv_eq] at h
    split at h
    · cases h
      exact ⟨rfl, Nat.le_refl _, Nat.le_refl _, Nat.le_refl _, hm⟩
    · cases h
      next x2 q t =>
      refine ⟨?_, Nat.le_refl _, Nat.le_refl _, Nat.le_refl _, hm⟩
      show some (pc + 1, s_Lv ε lv, Value.int (ε q.1 + q.2 + x2) :: s_S ε t, s_M ε m, c, d) = some (pc + 1, s_Lv ε lv, Value.int (ε q.1 + (q.2 + x2)) :: s_S ε t, s_M ε m, c, d)
      rw [Int32.add_assoc]
    · cases h
      next q x1 t =>
      refine ⟨?_, Nat.le_refl _, Nat.le_refl _, Nat.le_refl _, hm⟩
      show some (pc + 1, s_Lv ε lv, Value.int (x1 + (ε q.1 + q.2)) :: s_S ε t, s_M ε m, c, d) = some (pc + 1, s_Lv ε lv, Value.int (ε q.1 + (q.2 + x1)) :: s_S ε t, s_M ε m, c, d)
      rw [Int32.add_comm x1, Int32.add_assoc]
    · cases h
  | isub =>
    simp only [s_stp, s_fx, s_x_isub, s_lo_eq, s_fld_eq, s_iv_eq] at h
    obtain ⟨x2, x1, t, e0, h9⟩ := s_pII_i h
    subst e0
    cases h9
    exact ⟨rfl, Nat.le_refl _, Nat.le_refl _, Nat.le_refl _, hm⟩
  | imul =>
    simp only [s_stp, s_fx, s_x_imul, s_lo_eq, s_fld_eq, s_iv_eq] at h
    obtain ⟨x2, x1, t, e0, h9⟩ := s_pII_i h
    subst e0
    cases h9
    exact ⟨rfl, Nat.le_refl _, Nat.le_refl _, Nat.le_refl _, hm⟩
  | iand =>
    simp only [s_stp, s_fx, s_x_iand, s_lo_eq, s_fld_eq, s_iv_eq] at h
    split at h
    · cases h
      exact ⟨rfl, Nat.le_refl _, Nat.le_refl _, Nat.le_refl _, hm⟩
    · split at h
      · next hq =>
        cases h
        obtain ⟨e1, e2⟩ := hq
        subst e1 e2
        next t =>
        refine ⟨?_, Nat.le_refl _, Nat.le_refl _, Nat.le_refl _, hm⟩
        show some (pc + 1, s_Lv ε lv, Value.int ((ε 0 + 0) &&& 31) :: s_S ε t, s_M ε m, c, d) = some (pc + 1, s_Lv ε lv, s_v ε (s_rs I (.inr (6, 0))) :: s_S ε t, s_M ε m, c, d)
        rw [s_rs_ok hI]
        show _ = some (pc + 1, s_Lv ε lv, Value.int (ε 6 + 0) :: s_S ε t, s_M ε m, c, d)
        rw [Int32.add_zero, Int32.add_zero, h6]
      · cases h
    · cases h
  | ior =>
    simp only [s_stp, s_fx, s_x_ior, s_lo_eq, s_fld_eq, s_iv_eq] at h
    obtain ⟨x2, x1, t, e0, h9⟩ := s_pII_i h
    subst e0
    cases h9
    exact ⟨rfl, Nat.le_refl _, Nat.le_refl _, Nat.le_refl _, hm⟩
  | ishl =>
    simp only [s_stp, s_fx, s_x_ishl, s_lo_eq, s_fld_eq, s_iv_eq] at h
    obtain ⟨x2, x1, t, e0, h9⟩ := s_pII_i h
    subst e0
    cases h9
    exact ⟨rfl, Nat.le_refl _, Nat.le_refl _, Nat.le_refl _, hm⟩
  | ishr =>
    simp only [s_stp, s_fx, s_x_ishr, s_lo_eq, s_fld_eq, s_iv_eq] at h
    obtain ⟨x2, x1, t, e0, h9⟩ := s_pII_i h
    subst e0
    cases h9
    exact ⟨rfl, Nat.le_refl _, Nat.le_refl _, Nat.le_refl _, hm⟩
  | iushr =>
    simp only [s_stp, s_fx, s_x_iushr, s_lo_eq, s_fld_eq, s_iv_eq] at h
    split at h
    · cases h
      exact ⟨rfl, Nat.le_refl _, Nat.le_refl _, Nat.le_refl _, hm⟩
    · split at h
      · next hq =>
        cases h
        subst hq
        next q t =>
        refine ⟨?_, Nat.le_refl _, Nat.le_refl _, Nat.le_refl _, hm⟩
        show some (pc + 1, s_Lv ε lv, Value.int ((ε q.1 + q.2).toUInt32 >>> ((0 : Int32).toUInt32 &&& Int32.toUInt32 31)).toInt32 :: s_S ε t, s_M ε m, c, d) = some (pc + 1, s_Lv ε lv, Value.int (ε q.1 + q.2) :: s_S ε t, s_M ε m, c, d)
        rw [s_ushr0]
      · cases h
    · cases h
  | ineg =>
    simp only [s_stp, s_fx, s_x_ineg, s_lo_eq, s_fld_eq, s_iv_eq] at h
    obtain ⟨x, t, e0, h9⟩ := s_pI_i h
    subst e0
    cases h9
    exact ⟨rfl, Nat.le_refl _, Nat.le_refl _, Nat.le_refl _, hm⟩
  | i2l =>
    simp only [s_stp, s_fx, s_x_i2l, s_lo_eq, s_fld_eq, s_iv_eq] at h
    obtain ⟨x, t, e0, h9⟩ := s_pI_i h
    subst e0
    cases h9
    exact ⟨rfl, Nat.le_refl _, Nat.le_refl _, Nat.le_refl _, hm⟩
  | ladd =>
    simp only [s_stp, s_fx, s_x_ladd, s_lo_eq, s_fld_eq, s_iv_eq] at h
    obtain ⟨x2, x1, t, e0, h9⟩ := s_pLL_i h
    subst e0
    cases h9
    exact ⟨rfl, Nat.le_refl _, Nat.le_refl _, Nat.le_refl _, hm⟩
  | lmul =>
    simp only [s_stp, s_fx, s_x_lmul, s_lo_eq, s_fld_eq, s_iv_eq] at h
    obtain ⟨x2, x1, t, e0, h9⟩ := s_pLL_i h
    subst e0
    cases h9
    exact ⟨rfl, Nat.le_refl _, Nat.le_refl _, Nat.le_refl _, hm⟩
  | lcmp =>
    simp only [s_stp, s_fx, s_x_lcmp, s_lo_eq, s_fld_eq, s_iv_eq] at h
    obtain ⟨x2, x1, t, e0, h9⟩ := s_pLL_i h
    subst e0
    cases h9
    exact ⟨rfl, Nat.le_refl _, Nat.le_refl _, Nat.le_refl _, hm⟩
  | dcmp op =>
    simp only [s_stp, s_fx, s_x_dcmp, s_lo_eq, s_fld_eq, s_iv_eq] at h
    obtain ⟨x2, x1, t, e0, h9⟩ := s_pDD_i h
    subst e0
    cases h9
    exact ⟨rfl, Nat.le_refl _, Nat.le_refl _, Nat.le_refl _, hm⟩
  | dconst v =>
    simp only [s_stp, s_fx, s_x_dconst, s_lo_eq, s_fld_eq, s_iv_eq] at h
    split at h
    · next hv =>
      cases h
      refine ⟨?_, Nat.le_refl _, Nat.le_refl _, Nat.le_refl _, hm⟩
      simp only [g_stp]
      rw [if_pos hv]
      rfl
    · cases h
  | dup =>
    simp only [s_stp, s_fx, s_x_dup, s_lo_eq, s_fld_eq, s_iv_eq] at h
    obtain ⟨v, t, e0, h9⟩ := s_pV_i h
    subst e0
    replace h := h9
    split at h
    · next hv =>
      cases h
      refine ⟨?_, Nat.le_refl _, Nat.le_refl _, Nat.le_refl _, hm⟩
      simp only [g_stp, g_pV, s_S, List.map_cons, s_cat_ok]
      rw [if_pos hv]
    · cases h
  | pop =>
    simp only [s_stp, s_fx, s_x_pop, s_lo_eq, s_fld_eq, s_iv_eq] at h
    obtain ⟨v, t, e0, h9⟩ := s_pV_i h
    subst e0
    replace h := h9
    split at h
    · next hv =>
      cases h
      refine ⟨?_, Nat.le_refl _, Nat.le_refl _, Nat.le_refl _, hm⟩
      simp only [g_stp, g_pV, s_S, List.map_cons, s_cat_ok]
      rw [if_pos hv]
    · cases h
  | dup_x1 =>
    simp only [s_stp, s_fx, s_x_dup_x1, s_lo_eq, s_fld_eq, s_iv_eq] at h
    obtain ⟨v2, v1, t, e0, h9⟩ := s_pVV_i h
    subst e0
    replace h := h9
    split at h
    · next hv =>
      cases h
      refine ⟨?_, Nat.le_refl _, Nat.le_refl _, Nat.le_refl _, hm⟩
      simp only [g_stp, g_pVV, s_S, List.map_cons, s_cat_ok]
      rw [if_pos hv]
    · cases h
  | dup2 =>
    simp only [s_stp, s_fx, s_x_dup2, s_lo_eq, s_fld_eq, s_iv_eq] at h
    obtain ⟨v2, v1, t, e0, h9⟩ := s_pVV_i h
    subst e0
    replace h := h9
    split at h
    · next hv =>
      cases h
      refine ⟨?_, Nat.le_refl _, Nat.le_refl _, Nat.le_refl _, hm⟩
      simp only [g_stp, g_pVV, s_S, List.map_cons, s_cat_ok]
      rw [if_pos hv]
    · cases h
  | iload i =>
    simp only [s_stp, s_fx, s_x_iload, s_lo_eq, s_fld_eq, s_iv_eq] at h
    split at h
    · next x hx =>
      cases h
      refine ⟨?_, Nat.le_refl _, Nat.le_refl _, Nat.le_refl _, hm⟩
      simp only [g_stp, s_look_ok, hx, Option.map_some, s_v]
      rfl
    · next q hx =>
      cases h
      refine ⟨?_, Nat.le_refl _, Nat.le_refl _, Nat.le_refl _, hm⟩
      simp only [g_stp, s_look_ok, hx, Option.map_some, s_S, List.map_cons, s_rs_ok hI]
      rfl
    · cases h
  | iload_n i =>
    simp only [s_stp, s_fx, s_x_iload_n, s_lo_eq, s_fld_eq, s_iv_eq] at h
    split at h
    · next x hx =>
      cases h
      refine ⟨?_, Nat.le_refl _, Nat.le_refl _, Nat.le_refl _, hm⟩
      simp only [g_stp, s_look_ok, hx, Option.map_some, s_v]
      rfl
    · next q hx =>
      cases h
      refine ⟨?_, Nat.le_refl _, Nat.le_refl _, Nat.le_refl _, hm⟩
      simp only [g_stp, s_look_ok, hx, Option.map_some, s_S, List.map_cons, s_rs_ok hI]
      rfl
    · cases h
  | lload i =>
    simp only [s_stp, s_fx, s_x_lload, s_lo_eq, s_fld_eq, s_iv_eq] at h
    split at h
    · next x hx =>
      cases h
      refine ⟨?_, Nat.le_refl _, Nat.le_refl _, Nat.le_refl _, hm⟩
      simp only [g_stp, s_look_ok, hx, Option.map_some, s_v]
      rfl
    · cases h
  | lload_n i =>
    simp only [s_stp, s_fx, s_x_lload_n, s_lo_eq, s_fld_eq, s_iv_eq] at h
    split at h
    · next x hx =>
      cases h
      refine ⟨?_, Nat.le_refl _, Nat.le_refl _, Nat.le_refl _, hm⟩
      simp only [g_stp, s_look_ok, hx, Option.map_some, s_v]
      rfl
    · cases h
  | dload i =>
    simp only [s_stp, s_fx, s_x_dload, s_lo_eq, s_fld_eq, s_iv_eq] at h
    split at h
    · next x hx =>
      cases h
      refine ⟨?_, Nat.le_refl _, Nat.le_refl _, Nat.le_refl _, hm⟩
      simp only [g_stp, s_look_ok, hx, Option.map_some, s_v]
      rfl
    · cases h
  | dload_n i =>
    simp only [s_stp, s_fx, s_x_dload_n, s_lo_eq, s_fld_eq, s_iv_eq] at h
    split at h
    · next x hx =>
      cases h
      refine ⟨?_, Nat.le_refl _, Nat.le_refl _, Nat.le_refl _, hm⟩
      simp only [g_stp, s_look_ok, hx, Option.map_some, s_v]
      rfl
    · cases h
  | aload i =>
    simp only [s_stp, s_fx, s_x_aload, s_lo_eq, s_fld_eq, s_iv_eq] at h
    split at h
    · next x hx =>
      cases h
      refine ⟨?_, Nat.le_refl _, Nat.le_refl _, Nat.le_refl _, hm⟩
      simp only [g_stp, s_look_ok, hx, Option.map_some, s_v]
      rfl
    · cases h
  | aload_n i =>
    simp only [s_stp, s_fx, s_x_aload_n, s_lo_eq, s_fld_eq, s_iv_eq] at h
    split at h
    · next x hx =>
      cases h
      refine ⟨?_, Nat.le_refl _, Nat.le_refl _, Nat.le_refl _, hm⟩
      simp only [g_stp, s_look_ok, hx, Option.map_some, s_v]
      rfl
    · cases h
  | istore i =>
    simp only [s_stp, s_fx, s_x_istore, s_lo_eq, s_fld_eq, s_iv_eq] at h
    obtain ⟨v, t, e0, h9⟩ := s_pV_i h
    subst e0
    replace h := h9
    split at h
    · next hv =>
      cases h
      refine ⟨?_, Nat.le_refl _, Nat.le_refl _, Nat.le_refl _, hm⟩
      have e1 := s_isI_ok ε hv.2
      simp only [g_stp, g_pI, s_S, List.map_cons, e1]
      rw [if_pos hv.1, ← e1, s_st1_ok]
    · cases h
  | istore_n i =>
    simp only [s_stp, s_fx, s_x_istore_n, s_lo_eq, s_fld_eq, s_iv_eq] at h
    obtain ⟨v, t, e0, h9⟩ := s_pV_i h
    subst e0
    replace h := h9
    split at h
    · next hv =>
      cases h
      refine ⟨?_, Nat.le_refl _, Nat.le_refl _, Nat.le_refl _, hm⟩
      have e1 := s_isI_ok ε hv.2
      simp only [g_stp, g_pI, s_S, List.map_cons, e1]
      rw [if_pos hv.1, ← e1, s_st1_ok]
    · cases h
  | lstore i =>
    simp only [s_stp, s_fx, s_x_lstore, s_lo_eq, s_fld_eq, s_iv_eq] at h
    obtain ⟨x, t, e0, h9⟩ := s_pL_i h
    subst e0
    replace h := h9
    split at h
    · next hv =>
      cases h
      refine ⟨?_, Nat.le_refl _, Nat.le_refl _, Nat.le_refl _, hm⟩
      simp only [g_stp, g_pL, s_S, List.map_cons, s_v]
      rw [if_pos hv]
      rw [← s_st2_ok]
      rfl
    · cases h
  | lstore_n i =>
    simp only [s_stp, s_fx, s_x_lstore_n, s_lo_eq, s_fld_eq, s_iv_eq] at h
    obtain ⟨x, t, e0, h9⟩ := s_pL_i h
    subst e0
    replace h := h9
    split at h
    · next hv =>
      cases h
      refine ⟨?_, Nat.le_refl _, Nat.le_refl _, Nat.le_refl _, hm⟩
      simp only [g_stp, g_pL, s_S, List.map_cons, s_v]
      rw [if_pos hv]
      rw [← s_st2_ok]
      rfl
    · cases h
  | dstore i =>
    simp only [s_stp, s_fx, s_x_dstore, s_lo_eq, s_fld_eq, s_iv_eq] at h
    obtain ⟨x, t, e0, h9⟩ := s_pD_i h
    subst e0
    replace h := h9
    split at h
    · next hv =>
      cases h
      refine ⟨?_, Nat.le_refl _, Nat.le_refl _, Nat.le_refl _, hm⟩
      simp only [g_stp, g_pD, s_S, List.map_cons, s_v]
      rw [if_pos hv]
      rw [← s_st2_ok]
      rfl
    · cases h
  | dstore_n i =>
    simp only [s_stp, s_fx, s_x_dstore_n, s_lo_eq, s_fld_eq, s_iv_eq] at h
    obtain ⟨x, t, e0, h9⟩ := s_pD_i h
    subst e0
    replace h := h9
    split at h
    · next hv =>
      cases h
      refine ⟨?_, Nat.le_refl _, Nat.le_refl _, Nat.le_refl _, hm⟩
      simp only [g_stp, g_pD, s_S, List.map_cons, s_v]
      rw [if_pos hv]
      rw [← s_st2_ok]
      rfl
    · cases h
  | astore i =>
    simp only [s_stp, s_fx, s_x_astore, s_lo_eq, s_fld_eq, s_iv_eq] at h
    obtain ⟨a, t, e0, h9⟩ := s_pR_i h
    subst e0
    replace h := h9
    split at h
    · next hv =>
      cases h
      refine ⟨?_, Nat.le_refl _, Nat.le_refl _, Nat.le_refl _, hm⟩
      simp only [g_stp, g_pR, s_S, List.map_cons, s_v]
      rw [if_pos hv]
      rw [← s_st1_ok]
      rfl
    · cases h
  | astore_n i =>
    simp only [s_stp, s_fx, s_x_astore_n, s_lo_eq, s_fld_eq, s_iv_eq] at h
    obtain ⟨a, t, e0, h9⟩ := s_pR_i h
    subst e0
    replace h := h9
    split at h
    · next hv =>
      cases h
      refine ⟨?_, Nat.le_refl _, Nat.le_refl _, Nat.le_refl _, hm⟩
      simp only [g_stp, g_pR, s_S, List.map_cons, s_v]
      rw [if_pos hv]
      rw [← s_st1_ok]
      rfl
    · cases h
  | iinc i v =>
    simp only [s_stp, s_fx, s_x_iinc, s_lo_eq, s_fld_eq, s_iv_eq] at h
    split at h
    · next x hx =>
      split at h
      · next hi =>
        cases h
        refine ⟨?_, Nat.le_refl _, Nat.le_refl _, Nat.le_refl _, hm⟩
        simp only [g_stp, s_look_ok, hx, Option.map_some, s_v]
        rw [if_pos hi, ← s_st1_ok]
        rfl
      · cases h
    · next q hx =>
      split at h
      · next hi =>
        cases h
        refine ⟨?_, Nat.le_refl _, Nat.le_refl _, Nat.le_refl _, hm⟩
        simp only [g_stp, s_look_ok, hx, Option.map_some, s_v]
        rw [if_pos hi, ← s_st1_ok]
        show _ = some (pc + 3, g_st1 (s_Lv ε lv) i (.int (ε q.1 + (q.2 + Int32.ofInt v))), s_S ε st, s_M ε m, c, d)
        rw [Int32.add_assoc]
      · cases h
    · cases h
  | ifCond cd off =>
    simp only [s_stp, s_fx, s_x_ifCond, s_lo_eq, s_fld_eq, s_iv_eq] at h
    replace h := Option.bind_eq_some_iff.mp h; obtain ⟨tg, htg, h⟩ := h
    split at h
    · cases h
      refine ⟨?_, Nat.le_refl _, Nat.le_refl _, Nat.le_refl _, hm⟩
      simp only [g_stp, htg, Option.bind_some]
      rfl
    · next q t =>
      split at h
      · next h0 =>
        replace h := Option.bind_eq_some_iff.mp h; obtain ⟨o, ho, h⟩ := h
        cases h
        refine ⟨?_, Nat.le_refl _, Nat.le_refl _, Nat.le_refl _, hm⟩
        have e1 : g_c1 cd (ε q.1 + q.2) = s_o cd o := by
          rw [h0, Int32.add_zero, s_c1_c2]
          exact s_c2_ok cd (s_cmp_i hI ho)
        simp only [g_stp, htg, Option.bind_some, s_S, List.map_cons, s_v, g_pI, e1]
      · cases h
    · cases h
  | if_icmp cd off =>
    simp only [s_stp, s_fx, s_x_if_icmp, s_lo_eq, s_fld_eq, s_iv_eq] at h
    replace h := Option.bind_eq_some_iff.mp h; obtain ⟨tg, htg, h⟩ := h
    split at h
    · cases h
      refine ⟨?_, Nat.le_refl _, Nat.le_refl _, Nat.le_refl _, hm⟩
      simp only [g_stp, htg, Option.bind_some]
      rfl
    · next x2 q t =>
      split at h
      · next h0 =>
        replace h := Option.bind_eq_some_iff.mp h; obtain ⟨o, ho, h⟩ := h
        cases h
        refine ⟨?_, Nat.le_refl _, Nat.le_refl _, Nat.le_refl _, hm⟩
        have e1 : g_c2 cd (ε q.1 + q.2) x2 = s_o cd o := by
          rw [h0, Int32.add_zero]
          exact s_c2_ok cd (s_cmp_i hI ho)
        simp only [g_stp, htg, Option.bind_some, s_S, List.map_cons, s_v, g_pII, e1]
      · cases h
    · next q x1 t =>
      split at h
      · next h0 =>
        replace h := Option.bind_eq_some_iff.mp h; obtain ⟨o, ho, h⟩ := h
        cases h
        refine ⟨?_, Nat.le_refl _, Nat.le_refl _, Nat.le_refl _, hm⟩
        have e1 : g_c2 cd x1 (ε q.1 + q.2) = s_o cd (s_sw o) := by
          rw [h0, Int32.add_zero]
          refine s_c2_ok cd ?_
          rcases s_cmp_i hI ho with ⟨rfl, h1⟩ | ⟨rfl, h1⟩ | ⟨rfl, h1⟩
          · exact Or.inr (Or.inr ⟨rfl, h1⟩)
          · exact Or.inr (Or.inl ⟨rfl, h1.symm⟩)
          · exact Or.inl ⟨rfl, h1⟩
        simp only [g_stp, htg, Option.bind_some, s_S, List.map_cons, s_v, g_pII, e1]
      · cases h
    · cases h
  | goto off =>
    simp only [s_stp, s_fx, s_x_goto, s_lo_eq, s_fld_eq, s_iv_eq] at h
    replace h := Option.bind_eq_some_iff.mp h; obtain ⟨tg, htg, h⟩ := h
    cases h
    refine ⟨?_, Nat.le_refl _, Nat.le_refl _, Nat.le_refl _, hm⟩
    simp only [g_stp, htg, Option.bind_some]
  | tableswitch df lo hi offs =>
    simp only [s_stp, s_fx, s_x_tableswitch, s_lo_eq, s_fld_eq, s_iv_eq] at h
    split at h
    · next v t =>
      have hv := s_rs_ok hI v
      split at h
      · next x hx =>
        rw [hx] at hv
        have e1 : s_S ε (v :: t) = Value.int x :: s_S ε t := by
          show s_v ε v :: s_S ε t = _
          rw [← hv]
          rfl
        split at h
        · next hc =>
          replace h := Option.bind_eq_some_iff.mp h; obtain ⟨tg, htg, h⟩ := h
          cases h
          refine ⟨?_, Nat.le_refl _, Nat.le_refl _, Nat.le_refl _, hm⟩
          simp only [g_stp, e1, g_pI, if_pos hc, htg, Option.bind_some]
        · next hc =>
          replace h := Option.bind_eq_some_iff.mp h; obtain ⟨off, ho, h⟩ := h
          replace h := Option.bind_eq_some_iff.mp h; obtain ⟨tg, htg, h⟩ := h
          cases h
          refine ⟨?_, Nat.le_refl _, Nat.le_refl _, Nat.le_refl _, hm⟩
          simp only [g_stp, e1, g_pI, if_neg hc, ho, htg, Option.bind_some]
      · next q hx =>
        rw [hx] at hv
        split at h
        · next h0 =>
          split at h
          · next r hr =>
            split at h
            · next hc =>
              replace h := Option.bind_eq_some_iff.mp h; obtain ⟨tg, htg, h⟩ := h
              cases h
              refine ⟨?_, Nat.le_refl _, Nat.le_refl _, Nat.le_refl _, hm⟩
              obtain ⟨h1, h2⟩ := hI _ _ hr
              have e1 : s_S ε (v :: t) = Value.int (ε q.1) :: s_S ε t := by
                show s_v ε v :: s_S ε t = _
                rw [← hv]
                show Value.int (ε q.1 + q.2) :: _ = _
                rw [h0, Int32.add_zero]
              have hc2 : (ε q.1).toInt < lo ∨ hi < (ε q.1).toInt := by omega
              simp only [g_stp, e1, g_pI, if_pos hc2, htg, Option.bind_some]
            · cases h
          · cases h
        · cases h
      · cases h
    · cases h
  | ldc ix =>
    simp only [s_stp, s_fx, s_x_ldc, s_lo_eq, s_fld_eq, s_iv_eq] at h
    split at h
    · next x j hx =>
      cases h
      refine ⟨?_, Nat.le_refl _, Nat.le_refl _, Nat.le_refl _, hm⟩
      simp only [g_stp, hx]
      rfl
    · cases h
  | ldc2_w ix =>
    simp only [s_stp, s_fx, s_x_ldc2_w, s_lo_eq, s_fld_eq, s_iv_eq] at h
    split at h
    · next x j hx =>
      cases h
      refine ⟨?_, Nat.le_refl _, Nat.le_refl _, Nat.le_refl _, hm⟩
      simp only [g_stp, hx]
      rfl
    · cases h
  | getfield ix =>
    simp only [s_stp, s_fx, s_x_getfield, s_lo_eq, s_fld_eq, s_iv_eq] at h
    split at h
    · cases h
    · next ci k j host ref hf =>
      obtain ⟨a, t, e0, h9⟩ := s_pR_i h
      subst e0
      replace h := h9
      split at h
      · next cj fs he =>
        split at h
        · next hcj =>
          replace h := Option.bind_eq_some_iff.mp h; obtain ⟨v, hv, h⟩ := h
          cases h
          refine ⟨?_, Nat.le_refl _, Nat.le_refl _, Nat.le_refl _, hm⟩
          simp only [g_stp, hf, s_S, List.map_cons, s_v, g_pR, s_rd_ok hm, he, Option.map_some, s_e]
          rw [if_pos hcj, List.getElem?_map, hv]
          show some (pc + 3, s_Lv ε lv, s_v ε v :: s_S ε t, s_M ε m, c, d) = some (pc + 3, s_Lv ε lv, s_v ε (s_rs I v) :: s_S ε t, s_M ε m, c, d)
          rw [s_rs_ok hI]
        · cases h
      · cases h
  | putfield ix =>
    simp only [s_stp, s_fx, s_x_putfield, s_lo_eq, s_fld_eq, s_iv_eq] at h
    split at h
    · cases h
    · next ci k j host ref hf =>
      obtain ⟨v, a, t, e0, h9⟩ := s_pRV_i h
      subst e0
      replace h := h9
      split at h
      · next cj fs ty he hty =>
        split at h
        · next hc =>
          cases h
          obtain ⟨c1, c2, c3, c4, c5⟩ := hc
          refine ⟨?_, Nat.le_refl _, Nat.le_refl _, Nat.le_refl _, s_set_wf hm (by rw [he]; rfl) _⟩
          have hq := s_put_ok ε c3
          rw [← s_ft_ok hty] at hq
          have e1 : s_e ε (.inl (ci, fs.set k v)) = .inl (ci, (fs.map (s_v ε)).set k (s_v ε v)) := by
            simp only [s_e, List.map_set]
          have e2 := s_set_ok (ε := ε) hm (a := a) (e := .inl (ci, fs.set k v)) (by rw [he]; rfl)
          rw [e1] at e2
          have e0 : s_S ε (v :: .inl (.ref a) :: t) = s_v ε v :: Value.ref a :: s_S ε t := rfl
          simp only [g_stp, hf, e0, g_pRV, s_rd_ok hm, he, Option.map_some, s_e]
          rw [if_pos ⟨c1, by rw [List.length_map]; exact c2, hq, by rw [← c4]; exact s_ok_ok ε m.1 v, s_pf_i c5⟩, e2]
        · cases h
      · cases h
  | new ix =>
    simp only [s_stp, s_fx, s_x_new, s_lo_eq, s_fld_eq, s_iv_eq] at h
    split at h
    · cases h
    · next ci j j1 j2 hf =>
      split at h
      · next l hl =>
        split at h
        · next hc =>
          cases h
          refine ⟨?_, Nat.le_succ _, Nat.le_succ _, Nat.le_add_right _ _, s_new_wf hm hc.1 _⟩
          have e2 := s_new_ok (ε := ε) hm hc.1 (some (.inl (ci, l)))
          have e3 : (some (Sum.inl (ci, l)) : Option sE).map (s_e ε) = some (.inl (ci, g_df ci)) := by
            simp only [Option.map_some, s_e, s_df_ok ε hl]
          rw [e3] at e2
          simp only [g_stp, hf]
          rw [if_pos ⟨by rw [← hc.2.1]; exact s_allL_ok ε m.1 lv, by rw [← hc.2.2]; exact s_all_ok ε m.1 st⟩, e2]
          rfl
        · cases h
      · cases h
  | newarray at_ =>
    simp only [s_stp, s_fx, s_x_newarray, s_lo_eq, s_fld_eq, s_iv_eq] at h
    obtain ⟨x, t, e0, h9⟩ := s_pI_i h
    subst e0
    replace h := h9
    split at h
    · next hc =>
      have hg : (s_Lv ε lv).all (fun q => g_ok (s_M ε m).1 q.2) = true ∧ (s_S ε t).all (g_ok (s_M ε m).1) = true := ⟨by rw [← hc.2.2.2.1]; exact s_allL_ok ε m.1 lv, by rw [← hc.2.2.2.2]; exact s_all_ok ε m.1 t⟩
      split at h
      · cases h
        refine ⟨?_, Nat.le_succ _, Nat.le_succ _, Nat.le_add_right _ _, s_new_wf hm hc.2.2.1 _⟩
        have e2 := s_new_ok (ε := ε) hm hc.2.2.1 (some (.inr (0, .inl (List.replicate x.toNatClampNeg (.inl (.int 0))))))
        have e3 : (some (Sum.inr (0, .inl (List.replicate x.toNatClampNeg (.inl (.int 0))))) : Option sE).map (s_e ε) = some (.inr (0, x.toNatClampNeg, .inl (fun _ => 0))) := by
          simp only [Option.map_some, s_e, s_repl, List.length_replicate]
          rfl
        rw [e3] at e2
        simp only [g_stp, s_S, List.map_cons, s_v, g_pI]
        rw [if_pos ⟨hc.1, hc.2.1, hg.1, hg.2⟩]
        rw [e2]
        rfl
      · cases h
        refine ⟨?_, Nat.le_succ _, Nat.le_succ _, Nat.le_add_right _ _, s_new_wf hm hc.2.2.1 _⟩
        have e2 := s_new_ok (ε := ε) hm hc.2.2.1 (some (.inr (1, .inr (.inl (List.replicate x.toNatClampNeg 0)))))
        have e3 : (some (Sum.inr (1, .inr (.inl (List.replicate x.toNatClampNeg 0)))) : Option sE).map (s_e ε) = some (.inr (1, x.toNatClampNeg, .inr (.inl (fun _ => 0)))) := by
          simp only [Option.map_some, s_e, s_repl, List.length_replicate]
        rw [e3] at e2
        simp only [g_stp, s_S, List.map_cons, s_v, g_pI]
        rw [if_pos ⟨hc.1, hc.2.1, hg.1, hg.2⟩]
        rw [e2]
        rfl
      · cases h
    · cases h
  | anewarray ix =>
    simp only [s_stp, s_fx, s_x_anewarray, s_lo_eq, s_fld_eq, s_iv_eq] at h
    split at h
    · cases h
    · next tg j j1 hf =>
      obtain ⟨x, t, e0, h9⟩ := s_pI_i h
      subst e0
      replace h := h9
      split at h
      · next hc =>
        have hg : (s_Lv ε lv).all (fun q => g_ok (s_M ε m).1 q.2) = true ∧ (s_S ε t).all (g_ok (s_M ε m).1) = true := ⟨by rw [← hc.2.2.2.1]; exact s_allL_ok ε m.1 lv, by rw [← hc.2.2.2.2]; exact s_all_ok ε m.1 t⟩
        cases h
        refine ⟨?_, Nat.le_succ _, Nat.le_succ _, Nat.le_add_right _ _, s_new_wf hm hc.2.2.1 _⟩
        have e2 := s_new_ok (ε := ε) hm hc.2.2.1 (some (.inr (tg, .inr (.inr (List.replicate x.toNatClampNeg none)))))
        have e3 : (some (Sum.inr (tg, .inr (.inr (List.replicate x.toNatClampNeg none)))) : Option sE).map (s_e ε) = some (.inr (tg, x.toNatClampNeg, .inr (.inr (fun _ => none)))) := by
          simp only [Option.map_some, s_e, s_repl, List.length_replicate]
        rw [e3] at e2
        simp only [g_stp, hf, s_S, List.map_cons, s_v, g_pI]
        rw [if_pos ⟨hc.1, hc.2.1, hg.1, hg.2⟩, e2]
        rfl
      · cases h
  | arraylength =>
    simp only [s_stp, s_fx, s_x_arraylength, s_lo_eq, s_fld_eq, s_iv_eq] at h
    obtain ⟨a, t, e0, h9⟩ := s_pR_i h
    subst e0
    replace h := h9
    split at h
    · next h0 =>
      cases h
      refine ⟨?_, Nat.le_refl _, Nat.le_refl _, Nat.le_refl _, hm⟩
      simp only [g_stp, s_S, List.map_cons, s_v, g_pR]
      rw [if_pos h0]
    · next h0 =>
      split at h
      · next h1 =>
        cases h
        refine ⟨?_, Nat.le_refl _, Nat.le_refl _, Nat.le_refl _, hm⟩
        simp only [g_stp, s_S, List.map_cons, s_v, g_pR]
        rw [if_neg h0, if_pos h1]
      · next h1 =>
        split at h
        · next tg l he =>
          cases h
          refine ⟨?_, Nat.le_refl _, Nat.le_refl _, Nat.le_refl _, hm⟩
          simp only [g_stp, s_S, List.map_cons, s_v, g_pR, s_rd_ok hm, he, Option.map_some, s_e]
          rw [if_neg h0, if_neg h1]
        · next tg l he =>
          cases h
          refine ⟨?_, Nat.le_refl _, Nat.le_refl _, Nat.le_refl _, hm⟩
          simp only [g_stp, s_S, List.map_cons, s_v, g_pR, s_rd_ok hm, he, Option.map_some, s_e]
          rw [if_neg h0, if_neg h1]
        · next tg l he =>
          cases h
          refine ⟨?_, Nat.le_refl _, Nat.le_refl _, Nat.le_refl _, hm⟩
          simp only [g_stp, s_S, List.map_cons, s_v, g_pR, s_rd_ok hm, he, Option.map_some, s_e]
          rw [if_neg h0, if_neg h1]
        · cases h
  | iaload =>
    simp only [s_stp, s_fx, s_x_iaload, s_lo_eq, s_fld_eq, s_iv_eq] at h
    obtain ⟨v, a, t, e0, h9⟩ := s_pRVx_i h
    subst e0
    replace h := h9
    have hv := s_rs_ok hI v
    split at h
    · next i hi =>
      rw [hi] at hv
      have e1 : s_S ε (v :: .inl (.ref a) :: t) = Value.int i :: Value.ref a :: s_S ε t := by
        show s_v ε v :: Value.ref a :: s_S ε t = _
        rw [← hv]
        rfl
      split at h
      · next h0 =>
        split at h
        · next hc =>
          cases h
          refine ⟨?_, Nat.le_refl _, Nat.le_refl _, Nat.le_refl _, hm⟩
          have hlt : i.toNatClampNeg < L := by
            simp only [g_ix, Bool.not_eq_true', Bool.or_eq_false_iff, decide_eq_false_iff_not] at hc
            omega
          have e2 : s_S ε (s_rs I (.inr (i.toNatClampNeg, 0)) :: t) = Value.int (xs i.toNatClampNeg) :: s_S ε t := by
            show s_v ε (s_rs I (.inr (i.toNatClampNeg, 0))) :: s_S ε t = _
            rw [s_rs_ok hI]
            show Value.int (ε i.toNatClampNeg + 0) :: s_S ε t = _
            rw [Int32.add_zero, hxs _ (Nat.lt_of_lt_of_le hlt hL)]
          simp only [g_stp, e1, g_pRI]
          rw [if_pos h0, if_pos hc, e2]
        · cases h
      · next h0 =>
        split at h
        · next l he =>
          split at h
          · next hc =>
            cases h
            refine ⟨?_, Nat.le_refl _, Nat.le_refl _, Nat.le_refl _, hm⟩
            have e2 : s_S ε (s_rs I (l.getD i.toNatClampNeg (.inl (.int 0))) :: t) = Value.int (s_i ε (l.getD i.toNatClampNeg (.inl (.int 0)))) :: s_S ε t := by
              show s_v ε (s_rs I (l.getD i.toNatClampNeg (.inl (.int 0)))) :: s_S ε t = _
              rw [s_rs_ok hI, s_isI_ok ε hc.2]
            simp only [g_stp, e1, g_pRI, s_rd_ok hm, he, Option.map_some, s_e]
            rw [if_neg h0, if_pos hc.1, e2]
          · cases h
        · cases h
    · cases h
  | laload =>
    simp only [s_stp, s_fx, s_x_laload, s_lo_eq, s_fld_eq, s_iv_eq] at h
    obtain ⟨i, a, t, e0, h9⟩ := s_pRI_i h
    subst e0
    replace h := h9
    split at h
    · next l he =>
      split at h
      · next hc =>
        cases h
        refine ⟨?_, Nat.le_refl _, Nat.le_refl _, Nat.le_refl _, hm⟩
        simp only [g_stp, s_S, List.map_cons, s_v, g_pRI, s_rd_ok hm, he, Option.map_some, s_e]
        rw [if_pos hc]
      · cases h
    · cases h
  | aaload =>
    simp only [s_stp, s_fx, s_x_aaload, s_lo_eq, s_fld_eq, s_iv_eq] at h
    obtain ⟨i, a, t, e0, h9⟩ := s_pRI_i h
    subst e0
    replace h := h9
    split at h
    · next tg l he =>
      split at h
      · next hc =>
        cases h
        refine ⟨?_, Nat.le_refl _, Nat.le_refl _, Nat.le_refl _, hm⟩
        simp only [g_stp, s_S, List.map_cons, s_v, g_pRI, s_rd_ok hm, he, Option.map_some, s_e]
        rw [if_pos hc]
      · cases h
    · cases h
  | iastore =>
    simp only [s_stp, s_fx, s_x_iastore, s_lo_eq, s_fld_eq, s_iv_eq] at h
    obtain ⟨v, i, a, t, e0, h9⟩ := s_pRVI_i h
    subst e0
    replace h := h9
    split at h
    · next l he =>
      split at h
      · next hc =>
        cases h
        refine ⟨?_, Nat.le_refl _, Nat.le_refl _, Nat.le_refl _, s_set_wf hm (by rw [he]; rfl) _⟩
        have hlt : i.toNatClampNeg < l.length := by
          have h1 := hc.1
          simp only [g_ix, Bool.not_eq_true', Bool.or_eq_false_iff, decide_eq_false_iff_not] at h1
          omega
        have e2 := s_set_ok (ε := ε) hm (a := a) (e := .inr (0, .inl (l.set i.toNatClampNeg v))) (by rw [he]; rfl)
        have e3 : s_e ε (.inr (0, .inl (l.set i.toNatClampNeg v))) = .inr (0, l.length, .inl (upd (fun j => s_i ε (l.getD j (.inl (.int 0)))) i.toNatClampNeg (s_i ε v))) := by
          have e4 : upd (fun j => s_i ε (l.getD j (.inl (.int 0)))) i.toNatClampNeg (s_i ε v) = fun j => s_i ε ((l.set i.toNatClampNeg v).getD j (.inl (.int 0))) := s_upd_ok (s_i ε) _ hlt v
          rw [e4]
          simp only [s_e, List.length_set]
        rw [e3] at e2
        have e0 : s_S ε (v :: .inl (.int i) :: .inl (.ref a) :: t) = Value.int (s_i ε v) :: Value.int i :: Value.ref a :: s_S ε t := by
          show s_v ε v :: _ = _
          rw [s_isI_ok ε hc.2]
          rfl
        simp only [g_stp, e0, g_pRII, s_rd_ok hm, he, Option.map_some, s_e]
        rw [if_pos hc.1, e2]
      · cases h
    · cases h
  | lastore =>
    simp only [s_stp, s_fx, s_x_lastore, s_lo_eq, s_fld_eq, s_iv_eq] at h
    obtain ⟨x, i, a, t, e0, h9⟩ := s_pRIL_i h
    subst e0
    replace h := h9
    split at h
    · next l he =>
      split at h
      · next hc =>
        cases h
        refine ⟨?_, Nat.le_refl _, Nat.le_refl _, Nat.le_refl _, s_set_wf hm (by rw [he]; rfl) _⟩
        have hlt : i.toNatClampNeg < l.length := by
          have h1 := hc
          simp only [g_ix, Bool.not_eq_true', Bool.or_eq_false_iff, decide_eq_false_iff_not] at h1
          omega
        have e2 := s_set_ok (ε := ε) hm (a := a) (e := .inr (1, .inr (.inl (l.set i.toNatClampNeg x)))) (by rw [he]; rfl)
        have e3 : s_e ε (.inr (1, .inr (.inl (l.set i.toNatClampNeg x)))) = .inr (1, l.length, .inr (.inl (vp_updL (fun j => l.getD j 0) i.toNatClampNeg x))) := by
          have e4 : vp_updL (fun j => l.getD j 0) i.toNatClampNeg x = fun j => (l.set i.toNatClampNeg x).getD j 0 := s_upd_ok id _ hlt x
          rw [e4]
          simp only [s_e, List.length_set]
        rw [e3] at e2
        simp only [g_stp, s_S, List.map_cons, s_v, g_pRIL, s_rd_ok hm, he, Option.map_some, s_e]
        rw [if_pos hc, e2]
      · cases h
    · cases h
  | aastore =>
    simp only [s_stp, s_fx, s_x_aastore, s_lo_eq, s_fld_eq, s_iv_eq] at h
    obtain ⟨v, i, a, t, e0, h9⟩ := s_pRIR_i h
    subst e0
    replace h := h9
    split at h
    · next tg l ci fs he hv =>
      split at h
      · next hc =>
        cases h
        refine ⟨?_, Nat.le_refl _, Nat.le_refl _, Nat.le_refl _, s_set_wf hm (by rw [he]; rfl) _⟩
        have hlt : i.toNatClampNeg < l.length := by
          have h1 := hc.1
          simp only [g_ix, Bool.not_eq_true', Bool.or_eq_false_iff, decide_eq_false_iff_not] at h1
          omega
        have e2 := s_set_ok (ε := ε) hm (a := a) (e := .inr (tg, .inr (.inr (l.set i.toNatClampNeg (some v))))) (by rw [he]; rfl)
        have e3 : s_e ε (.inr (tg, .inr (.inr (l.set i.toNatClampNeg (some v))))) = .inr (tg, l.length, .inr (.inr (va_up (fun j => l.getD j none) i.toNatClampNeg (some v)))) := by
          have e4 : va_up (fun j => l.getD j none) i.toNatClampNeg (some v) = fun j => (l.set i.toNatClampNeg (some v)).getD j none := s_upd_ok id _ hlt (some v)
          rw [e4]
          simp only [s_e, List.length_set]
        rw [e3] at e2
        simp only [g_stp, s_S, List.map_cons, s_v, g_pRIR, s_rd_ok hm, he, hv, Option.map_some, s_e]
        rw [if_pos ⟨hc.1, s_okA_i hc.2⟩, e2]
      · next hnc =>
       split at h
       · next hc =>
        cases h
        refine ⟨?_, Nat.le_refl _, Nat.le_refl _, Nat.le_refl _, s_set_wf hm (by rw [he]; rfl) _⟩
        have hlt : i.toNatClampNeg < l.length := by
          have h1 := hc.1
          simp only [g_ix, Bool.not_eq_true', Bool.or_eq_false_iff, decide_eq_false_iff_not] at h1
          omega
        have e2 := s_set_ok (ε := ε) hm (a := a) (e := .inr (tg, .inr (.inr (l.set i.toNatClampNeg (some v))))) (by rw [he]; rfl)
        have e3 : s_e ε (.inr (tg, .inr (.inr (l.set i.toNatClampNeg (some v))))) = .inr (tg, l.length, .inr (.inr (va_up (fun j => l.getD j none) i.toNatClampNeg (some v)))) := by
          have e4 : va_up (fun j => l.getD j none) i.toNatClampNeg (some v) = fun j => (l.set i.toNatClampNeg (some v)).getD j none := s_upd_ok id _ hlt (some v)
          rw [e4]
          simp only [s_e, List.length_set]
        rw [e3] at e2
        simp only [g_stp, s_S, List.map_cons, s_v, g_pRIR, s_rd_ok hm, he, hv, Option.map_some, s_e]
        rw [if_pos hc, ite_self, e2]
       · cases h
    · next tg l lw he hv =>
      split at h
      · next hc =>
        cases h
        refine ⟨?_, Nat.le_refl _, Nat.le_refl _, Nat.le_refl _, s_set_wf hm (by rw [he]; rfl) _⟩
        have hlt : i.toNatClampNeg < l.length := by
          have h1 := hc.1
          simp only [g_ix, Bool.not_eq_true', Bool.or_eq_false_iff, decide_eq_false_iff_not] at h1
          omega
        have e2 := s_set_ok (ε := ε) hm (a := a) (e := .inr (tg, .inr (.inr (l.set i.toNatClampNeg (some v))))) (by rw [he]; rfl)
        have e3 : s_e ε (.inr (tg, .inr (.inr (l.set i.toNatClampNeg (some v))))) = .inr (tg, l.length, .inr (.inr (va_up (fun j => l.getD j none) i.toNatClampNeg (some v)))) := by
          have e4 : va_up (fun j => l.getD j none) i.toNatClampNeg (some v) = fun j => (l.set i.toNatClampNeg (some v)).getD j none := s_upd_ok id _ hlt (some v)
          rw [e4]
          simp only [s_e, List.length_set]
        rw [e3] at e2
        simp only [g_stp, s_S, List.map_cons, s_v, g_pRIR, s_rd_ok hm, he, hv, Option.map_some, s_e]
        rw [if_pos hc, e2]
      · cases h
    · cases h
  | invokestatic ix =>
    simp only [s_stp, s_fx, s_x_invokestatic, s_lo_eq, s_fld_eq, s_iv_eq] at h
    split at h
    · next z na rest hf =>
      obtain ⟨ci, j, j1, j2, j3, host⟩ := rest
      obtain ⟨x2, x1, t, e0, h9⟩ := s_pII_i h
      subst e0
      replace h := h9
      split at h
      · next hc =>
        cases h
        refine ⟨?_, Nat.le_refl _, Nat.le_refl _, Nat.le_refl _, hm⟩
        have hc2 : ((s_S ε t).map fun v => v.category).sum ≤ 8 ∧ 1 ≤ gF y ∧ 21 ≤ gW y := by rw [s_cats_ok]; exact hc
        simp only [g_stp, hf]
        show (if ((s_S ε t).map fun v => v.category).sum ≤ 8 ∧ 1 ≤ gF y ∧ 21 ≤ gW y then _ else _) = _
        rw [if_pos hc2]
        rfl
      · cases h
    · next z na rest hf =>
      obtain ⟨ci, j, j1, j2, j3, host⟩ := rest
      obtain ⟨x2, x1, t, e0, h9⟩ := s_pII_i h
      subst e0
      replace h := h9
      split at h
      · next hc =>
        cases h
        refine ⟨?_, Nat.le_refl _, Nat.le_refl _, Nat.le_refl _, hm⟩
        have hc2 : ((s_S ε t).map fun v => v.category).sum ≤ 8 ∧ 1 ≤ gF y ∧ 21 ≤ gW y := by rw [s_cats_ok]; exact hc
        simp only [g_stp, hf]
        show (if ((s_S ε t).map fun v => v.category).sum ≤ 8 ∧ 1 ≤ gF y ∧ 21 ≤ gW y then _ else _) = _
        rw [if_pos hc2]
        rfl
      · cases h
    · next z na rest hf =>
      obtain ⟨ci, j, j1, j2, j3, host⟩ := rest
      split at h
      · next n dp a sp a0 t =>
        split at h
        · next f g he0 he1 =>
          split at h
          · next hc =>
            cases h
            obtain ⟨c1, c2, c3, c4, c5, c6, c7, c8⟩ := hc
            refine ⟨?_, Nat.le_refl _, Nat.le_refl _, Nat.le_refl _, s_set_wf hm (by rw [he1]; rfl) _⟩
            have e2 := s_set_ok (ε := ε) hm (a := a) (e := .inr (0, .inl (s_cpy (.inl (.int 0)) f g sp.toNatClampNeg dp.toNatClampNeg n.toNatClampNeg))) (by rw [he1]; rfl)
            have e3 : s_e ε (.inr (0, .inl (s_cpy (.inl (.int 0)) f g sp.toNatClampNeg dp.toNatClampNeg n.toNatClampNeg))) = .inr (0, g.length, .inl (va_cpy (fun i => s_i ε (f.getD i (.inl (.int 0)))) (fun i => s_i ε (g.getD i (.inl (.int 0)))) sp.toNatClampNeg dp.toNatClampNeg n.toNatClampNeg)) := by
              rw [s_cpy_ok (s_i ε) _ c5]
              simp only [s_e, s_cpy, List.length_map, List.length_range]
            rw [e3] at e2
            have hc2 : ((List.map (s_v ε) t).map fun v => v.category).sum ≤ 8 := by
              have := s_cats_ok ε t
              simp only [s_S] at this
              rw [this]; exact c6
            simp only [g_stp, hf, s_S, List.map_cons, s_v, s_rd_ok hm, he0, he1, Option.map_some, s_e]
            rw [if_pos ⟨c1, c2, c3, c4, c5, hc2, c7, c8⟩, e2]
          · cases h
        · cases h
      · cases h
    · cases h
  | getstatic ix =>
    simp only [s_stp, s_fx, s_x_getstatic, s_lo_eq, s_fld_eq, s_iv_eq] at h
    split at h
    · next j hf =>
      cases h
      refine ⟨?_, Nat.le_refl _, Nat.le_refl _, Nat.le_refl _, hm⟩
      simp only [g_stp, hf]
      rfl
    · cases h
  | if_acmp cd off =>
    simp only [s_stp, s_fx, s_x_if_acmp, s_lo_eq, s_fld_eq, s_iv_eq] at h
    replace h := Option.bind_eq_some_iff.mp h; obtain ⟨tg, htg, h⟩ := h
    split at h
    · next a2 a1 t =>
      split at h
      · next ha =>
        split at h
        · cases h
          refine ⟨?_, Nat.le_refl _, Nat.le_refl _, Nat.le_refl _, hm⟩
          simp only [g_stp, htg, Option.bind_some, s_S, List.map_cons, s_v, g_pVV]
          rw [if_pos ha]
        · cases h
          refine ⟨?_, Nat.le_refl _, Nat.le_refl _, Nat.le_refl _, hm⟩
          simp only [g_stp, htg, Option.bind_some, s_S, List.map_cons, s_v, g_pVV]
          rw [if_pos ha]
      · cases h
    · cases h
  | invokespecial ix =>
    simp only [s_stp, s_fx, s_x_invokespecial, s_lo_eq, s_fld_eq, s_iv_eq] at h
    split at h
    · next z na rest hf =>
      obtain ⟨ci, j, j1, j2, j3, host⟩ := rest
      obtain ⟨a, t, e0, h9⟩ := s_pR_i h
      subst e0
      replace h := h9
      split at h
      · next hc =>
        cases h
        refine ⟨?_, Nat.le_refl _, Nat.le_refl _, Nat.le_refl _, hm⟩
        have hc2 : ((s_S ε t).map fun v => v.category).sum ≤ 8 ∧ 1 ≤ gF y ∧ 21 ≤ gW y := by rw [s_cats_ok]; exact hc
        simp only [g_stp, hf]
        show (if ((s_S ε t).map fun v => v.category).sum ≤ 8 ∧ 1 ≤ gF y ∧ 21 ≤ gW y then _ else _) = _
        rw [if_pos hc2]
        rfl
      · cases h
    · cases h
  | _ => cases h
end
section
abbrev sOut : Type := ((Option sV ⊕ String) ⊕ (sL × List sV)) × sM × Nat × Nat
abbrev sMac : Type := Nat → Nat → sI → sL → List sV → sM → Nat → Nat → Option (Nat × sL × List sV × sM)
def s_rcv (m : sM) (a ci : Nat) : Bool := match s_rd m a with
  | some (.inl (cj, _)) => decide (cj = ci)
  | _ => false
def s_sl (l : List sV) : Nat := (l.map (fun v => if s_cat v = 2 then 2 else 1)).sum
theorem s_sl_ok (ε : Nat → Int32) : ∀ l : List sV, (lg_sl (s_S ε l)).length = s_sl l
  | [] => rfl
  | v :: l => by
    have ih := s_sl_ok ε l
    simp only [lg_sl, s_S, s_sl, List.map_cons, List.flatMap_cons, List.length_append, List.sum_cons, s_cat_ok] at ih ⊢
    rw [ih]
    by_cases h : s_cat v = 2 <;> simp [h]
theorem s_rcv_ok {ε : Nat → Int32} {m : sM} (hm : s_wf m) {a ci : Nat} (h : s_rcv m a ci = true) : g_rcv (s_M ε m) a ci = true := by
  unfold s_rcv at h
  split at h
  · next cj fs he =>
    unfold g_rcv
    rw [s_rd_ok hm, he]
    exact h
  · cases h
def s_inv (y : Nat) (i : Instr) (st : List sV) (lv : sL) (m : sM) : Option (Nat × List sV × List sV) :=
  match g_ivx i with
  | none => none
  | some (md, ix) => match s_iv y ix with
    | none => none
    | some (z, na, kd, ci, _) =>
      if kd < 100 ∧ z ≠ g_ylaw ∧ na ≤ st.length ∧ gF z + 1 ≤ gF y ∧ 8 + (gLo z + 11) + gW z ≤ gW y ∧ (gm_hw.getD z false = decide (kd = 6)) ∧ lv.all (fun q => s_ok m.1 q.2) = true ∧ st.all (s_ok m.1) = true then
        (if md = 0 then (if (kd = 0 ∨ kd = 3 ∨ kd = 6) ∧ s_sl (st.take na).reverse ≤ gLo z ∧ ((st.drop na).map s_cat).sum ≤ 8 then some (z, (st.take na).reverse, st.drop na) else none)
        else match st.drop na with
          | .inl (.ref a) :: rest =>
            if s_sl (.inl (.ref a) :: (st.take na).reverse) ≤ gLo z ∧ (rest.map s_cat).sum ≤ 8 ∧ ((md = 1 ∧ (kd = 1 ∨ kd = 4) ∧ s_rcv m a ci = true) ∨ (md = 2 ∧ (kd = 2 ∨ kd = 5))) then some (z, .inl (.ref a) :: (st.take na).reverse, rest) else none
          | _ => none)
      else none
theorem s_inv_ok {ε : Nat → Int32} {y : Nat} {i : Instr} {st : List sV} {lv : sL} {m : sM} (hm : s_wf m) {z : Nat} {as rest : List sV} (h : s_inv y i st lv m = some (z, as, rest)) : g_inv y i (s_S ε st) (s_Lv ε lv) (s_M ε m) = some (z, s_S ε as, s_S ε rest) := by
  have ht : ∀ n, (s_S ε st).take n = s_S ε (st.take n) := fun n => by simp only [s_S, List.map_take]
  have hd : ∀ n, (s_S ε st).drop n = s_S ε (st.drop n) := fun n => by simp only [s_S, List.map_drop]
  have hr : ∀ l : List sV, (s_S ε l).reverse = s_S ε l.reverse := fun l => by simp only [s_S, List.map_reverse]
  have hl : (s_S ε st).length = st.length := by simp only [s_S, List.length_map]
  unfold s_inv at h
  simp only [s_iv_eq] at h
  unfold g_inv
  split at h
  · cases h
  · next md ix hx =>
    rw [hx]
    dsimp only
    split at h
    · cases h
    · next z' na kd ci rs hf =>
      rw [hf]
      dsimp only
      split at h
      · next hc =>
        rw [if_pos ⟨hc.1, hc.2.1, by rw [hl]; exact hc.2.2.1, hc.2.2.2.1, hc.2.2.2.2.1, hc.2.2.2.2.2.1, by rw [← hc.2.2.2.2.2.2.1]; exact s_allL_ok ε m.1 lv, by rw [← hc.2.2.2.2.2.2.2]; exact s_all_ok ε m.1 st⟩]
        split at h
        · next hmd =>
          rw [if_pos hmd]
          split at h
          · next hs =>
            cases h
            rw [ht, hd, hr, s_sl_ok, s_cats_ok, if_pos hs]
          · cases h
        · next hmd =>
          rw [if_neg hmd]
          split at h
          · next a rest' hdr =>
            split at h
            · next hs =>
              cases h
              have e1 : (s_S ε st).drop na = Value.ref a :: s_S ε rest := by rw [hd, hdr]; rfl
              have e2 : Value.ref a :: ((s_S ε st).take na).reverse = s_S ε (.inl (.ref a) :: (st.take na).reverse) := by rw [ht, hr]; rfl
              rw [e1]
              dsimp only
              rw [e2, s_sl_ok, s_cats_ok]
              refine if_pos ⟨hs.1, hs.2.1, ?_⟩
              rcases hs.2.2 with h1 | h1
              · exact Or.inl ⟨h1.1, h1.2.1, s_rcv_ok hm h1.2.2⟩
              · exact Or.inr h1
            · cases h
          · cases h
      · cases h
def s_inf (y : Nat) (i : Instr) (st : List sV) (lv : sL) (m : sM) : Option (Nat × List sV × List sV) := match i with
  | .invokeinterface ix _ => match gIf y ix with
    | some (fi, _) => match st with
      | .inl (.ref a) :: rest => if s_rcv m a (g_if fi).1 = true ∧ (g_if fi).2.1 ≠ g_ylaw ∧ gF (g_if fi).2.1 + 1 ≤ gF y ∧ 8 + (gLo (g_if fi).2.1 + 11) + gW (g_if fi).2.1 ≤ gW y ∧ 1 ≤ gLo (g_if fi).2.1 ∧ (rest.map s_cat).sum ≤ 8 ∧ lv.all (fun q => s_ok m.1 q.2) = true ∧ st.all (s_ok m.1) = true then some ((g_if fi).2.1, [.inl (.ref a)], rest) else none
      | _ => none
    | none => none
  | _ => none
theorem s_inf_ok {ε : Nat → Int32} {y : Nat} {i : Instr} {st : List sV} {lv : sL} {m : sM} (hm : s_wf m) {z : Nat} {as rest : List sV} (h : s_inf y i st lv m = some (z, as, rest)) : g_inv y i (s_S ε st) (s_Lv ε lv) (s_M ε m) = none ∧ g_inf y i (s_S ε st) (s_Lv ε lv) (s_M ε m) = some (z, s_S ε as, s_S ε rest) := by
  unfold s_inf at h
  split at h
  · next ix cnt =>
    refine ⟨rfl, ?_⟩
    split at h
    · next fi jj hf =>
      split at h
      · next a rest' =>
        split at h
        · next hc =>
          cases h
          unfold g_inf
          dsimp only
          rw [hf]
          have e1 : s_S ε (.inl (.ref a) :: rest) = Value.ref a :: s_S ε rest := rfl
          rw [e1]
          dsimp only
          rw [s_cats_ok]
          exact if_pos ⟨s_rcv_ok hm hc.1, hc.2.1, hc.2.2.1, hc.2.2.2.1, hc.2.2.2.2.1, hc.2.2.2.2.2.1, by rw [← hc.2.2.2.2.2.2.1]; exact s_allL_ok ε m.1 lv, by rw [← hc.2.2.2.2.2.2.2]; exact s_all_ok ε m.1 (.inl (.ref a) :: rest)⟩
        · cases h
      · cases h
    · cases h
  · cases h
def s_cal (y : Nat) (i : Instr) (st : List sV) (lv : sL) (m : sM) : Option (Nat × List sV × List sV × Nat) := match s_inv y i st lv m with
  | some (z, as, rest) => some (z, as, rest, 3)
  | none => match s_inf y i st lv m with
    | some (z, as, rest) => some (z, as, rest, 5)
    | none => none
theorem s_cal_ok {ε : Nat → Int32} {y : Nat} {i : Instr} {st : List sV} {lv : sL} {m : sM} (hm : s_wf m) {z nn : Nat} {as rest : List sV} (h : s_cal y i st lv m = some (z, as, rest, nn)) : g_cal y i (s_S ε st) (s_Lv ε lv) (s_M ε m) = some (z, s_S ε as, s_S ε rest, nn) := by
  unfold s_cal at h
  unfold g_cal
  split at h
  · next z1 as1 rest1 h1 =>
    cases h
    rw [s_inv_ok hm h1]
  · split at h
    · next z1 as1 rest1 h1 =>
      cases h
      obtain ⟨e1, e2⟩ := s_inf_ok (ε := ε) hm h1
      rw [e1, e2]
    · cases h
def s_nocal (y : Nat) (i : Instr) : Bool := match i with
  | .invokestatic ix => match s_iv y ix with
    | none => true
    | some (_, _, kd, _) => decide (100 ≤ kd)
  | .invokevirtual ix => match s_iv y ix with
    | none => true
    | some (_, _, kd, _) => decide (100 ≤ kd)
  | .invokespecial ix => match s_iv y ix with
    | none => true
    | some (_, _, kd, _) => decide (100 ≤ kd)
  | .invokeinterface _ _ => false
  | _ => true
theorem s_noiv {y ix md : Nat} {i : Instr} {st : List Value} {lv : gL} {M : gM} (hi : g_ivx i = some (md, ix)) (h : (match gIv y ix with
    | none => true
    | some (_, _, kd, _) => decide (100 ≤ kd)) = true) : g_inv y i st lv M = none := by
  unfold g_inv
  rw [hi]
  dsimp only
  split at h
  · next hf => rw [hf]
  · next z na kd rs hf =>
    obtain ⟨ci, j, j1, j2, j3, host⟩ := rs
    rw [hf]
    dsimp only
    have := of_decide_eq_true h
    exact if_neg (fun q => by omega)
theorem s_nocal_ok {y : Nat} {i : Instr} (h : s_nocal y i = true) (st : List Value) (lv : gL) (M : gM) : g_cal y i st lv M = none := by
  have key : g_inv y i st lv M = none ∧ g_inf y i st lv M = none := by
    cases i with
    | invokestatic ix => simp only [s_nocal, s_iv_eq] at h; exact ⟨s_noiv (md := 0) rfl h, rfl⟩
    | invokevirtual ix => simp only [s_nocal, s_iv_eq] at h; exact ⟨s_noiv (md := 1) rfl h, rfl⟩
    | invokespecial ix => simp only [s_nocal, s_iv_eq] at h; exact ⟨s_noiv (md := 2) rfl h, rfl⟩
    | invokeinterface ix n => cases h
    | _ => exact ⟨rfl, rfl⟩
  unfold g_cal
  rw [key.1, key.2]
def s_isret (i : Instr) : Bool := match i with
  | .ireturn => true
  | .lreturn => true
  | .dreturn => true
  | .areturn => true
  | .return_ => true
  | _ => false
theorem s_isret_no {i : Instr} (h : s_isret i = false) (y : Nat) (st : List Value) : g_ret y i st = none := by
  cases i <;> first | rfl | cases h
def s_ret (y : Nat) (i : Instr) (st : List sV) : Option (Option sV) := match i with
  | .ireturn => match st with
    | [.inl (.int v)] => match gR y with
      | some ty => if narrow ty (.int v) = .int v then some (some (.inl (.int v))) else none
      | none => none
    | _ => none
  | .lreturn => match st with
    | [.inl (.long v)] => if gR y = some .long then some (some (.inl (.long v))) else none
    | _ => none
  | .dreturn => match st with
    | [.inl (.double v)] => if gR y = some .double then some (some (.inl (.double v))) else none
    | _ => none
  | .areturn => match st with
    | [.inl (.ref a)] => match gR y with
      | some ty => if g_isRef ty = true then some (some (.inl (.ref a))) else none
      | none => none
    | _ => none
  | .return_ => match st with
    | [] => if gR y = none then some none else none
    | _ => none
  | _ => none
theorem s_ret_ok {ε : Nat → Int32} {y : Nat} {i : Instr} {st : List sV} {r : Option sV} (h : s_ret y i st = some r) : g_ret y i (s_S ε st) = some (r.map (s_v ε)) := by
  cases i with
  | ireturn =>
    simp only [s_ret] at h
    split at h
    · split at h
      · next ty hty =>
        split at h
        · next hn =>
          cases h
          simp only [g_ret, s_S, List.map_cons, List.map_nil, s_v, hty]
          rw [if_pos hn]
          rfl
        · cases h
      · cases h
    · cases h
  | lreturn =>
    simp only [s_ret] at h
    split at h
    · split at h
      · next hn =>
        cases h
        simp only [g_ret, s_S, List.map_cons, List.map_nil, s_v]
        rw [if_pos hn]
        rfl
      · cases h
    · cases h
  | dreturn =>
    simp only [s_ret] at h
    split at h
    · split at h
      · next hn =>
        cases h
        simp only [g_ret, s_S, List.map_cons, List.map_nil, s_v]
        rw [if_pos hn]
        rfl
      · cases h
    · cases h
  | areturn =>
    simp only [s_ret] at h
    split at h
    · split at h
      · next ty hty =>
        split at h
        · next hn =>
          cases h
          simp only [g_ret, s_S, List.map_cons, List.map_nil, s_v, hty]
          rw [if_pos hn]
          rfl
        · cases h
      · cases h
    · cases h
  | return_ =>
    simp only [s_ret] at h
    split at h
    · split at h
      · next hn =>
        cases h
        simp only [g_ret, s_S, List.map_nil]
        rw [if_pos hn]
        rfl
      · cases h
    · cases h
  | _ => cases h
abbrev sRec : Type := Option Nat → sI → Nat → Nat → sL → List sV → sM → Nat → Nat → (sI → sOut → Bool) → Bool
theorem s_fn_i {i : Instr} {f : sFn} (h : s_fn i = .inl f) : s_isret i = false ∧ (∀ y, s_nocal y i = true) ∧ (∀ I st m, s_sp I i st m = [I]) ∧ s_fx i = f := by
  cases i <;> first | (cases h; exact ⟨rfl, fun _ => rfl, fun _ _ _ => rfl, rfl⟩) | cases h
theorem s_fn_r {i : Instr} (h : s_fn i = .inr 0) : s_isret i = true := by
  cases i <;> first | rfl | cases h
theorem s_fn_n {i : Instr} {n : Nat} (h : s_fn i = .inr n) (h0 : ¬ n = 0) : s_isret i = false := by
  cases i <;> first | rfl | (cases h; exact absurd rfl h0)
theorem s_fn_1 {i : Instr} (h : s_fn i = .inr 1) (y : Nat) : s_nocal y i = true := by
  cases i <;> first | rfl | cases h
def s_goQ (rec : sRec) (cut : Option Nat) (I : sI) (y : Nat) (κ : sI → sOut → Bool) (q : Option sCf) : Bool := match q with
  | some q => rec cut I y q.1 q.2.1 q.2.2.1 q.2.2.2.1 q.2.2.2.2.1 q.2.2.2.2.2 κ
  | none => false
def s_goH (rec : sRec) (cut : Option Nat) (y : Nat) (lv : sL) (κ : sI → sOut → Bool) (I1 : sI) (E : String) (m1 : sM) (c1 d1 : Nat) (f : Option (Option Nat)) : Bool := match f with
  | some (some h) => rec cut I1 y h lv [.inl (.ref m1.1)] (m1.1 + 1, m1.2) c1 d1 κ
  | some none => κ I1 (.inl (.inr E), m1, c1, d1)
  | none => false
def s_goK (rec : sRec) (cut : Option Nat) (y pc nn : Nat) (lv : sL) (rest : List sV) (c d : Nat) (κ : sI → sOut → Bool) (I1 : sI) (o : sOut) : Bool := match o.1 with
  | .inl (.inl r) => rec cut I1 y (pc + nn) lv (r.toList ++ rest) o.2.1 (c + o.2.2.1) (d + o.2.2.2) κ
  | .inl (.inr E) => s_goH rec cut y lv κ I1 E o.2.1 (c + o.2.2.1) (d + o.2.2.2) (g_find y pc E (gH y))
  | .inr _ => false
def s_goC (rec : sRec) (cut : Option Nat) (I : sI) (y pc : Nat) (lv : sL) (m : sM) (c d : Nat) (κ : sI → sOut → Bool) (q : Option (Nat × List sV × List sV × Nat)) : Bool := match q with
  | none => false
  | some q => rec none I q.1 0 (s_args 0 q.2.1) [] m 0 0 (s_goK rec cut y pc q.2.2.2 lv q.2.2.1 c d κ)
def s_goR (I : sI) (m : sM) (c d : Nat) (κ : sI → sOut → Bool) (r : Option (Option sV)) : Bool := match r with
  | some r => κ I (.inl (.inl r), m, c, d)
  | none => false
def s_goS (L : Nat) (rec : sRec) (i : Instr) (cut : Option Nat) (I : sI) (y pc : Nat) (lv : sL) (st : List sV) (m : sM) (c d : Nat) (κ : sI → sOut → Bool) (n : Nat) : Bool :=
  bif Nat.beq n 0 then s_goR I m c d κ (s_ret y i st)
  else bif Nat.beq n 1 then (s_sp I i st m).all (fun I1 => s_goQ rec cut I1 y κ (s_stp L I1 y i pc lv st m c d))
  else bif s_nocal y i then (s_sp I i st m).all (fun I1 => s_goQ rec cut I1 y κ (s_stp L I1 y i pc lv st m c d))
  else s_goC rec cut I y pc lv m c d κ (s_cal y i st lv m)
def s_goI (L : Nat) (rec : sRec) (i : Instr) (cut : Option Nat) (I : sI) (y pc : Nat) (lv : sL) (st : List sV) (m : sM) (c d : Nat) (κ : sI → sOut → Bool) (q : sFn ⊕ Nat) : Bool := match q with
  | .inl f => s_goQ rec cut I y κ (f L I y pc lv st m c d)
  | .inr n => s_goS L rec i cut I y pc lv st m c d κ n
def s_goT (y : Nat) (I : sI) (st : List sV) (m : sM) (c d : Nat) (κ : sI → sOut → Bool) (E : String) : Bool := if (st.map s_cat).sum ≤ 8 ∧ 6 ≤ gF y ∧ 98 ≤ gW y ∧ gH y = [] then κ I (.inl (.inr E), m, c + 1, d + 6) else false
def s_goD (L : Nat) (rec : sRec) (cut : Option Nat) (I : sI) (y pc : Nat) (lv : sL) (st : List sV) (m : sM) (c d : Nat) (κ : sI → sOut → Bool) (q : Option (Instr × Nat)) : Bool := match q with
  | none => false
  | some q => s_goI L rec q.1 cut I y pc lv st m c d κ (s_fn q.1)
def s_goX (L : Nat) (rec : sRec) (cut : Option Nat) (I : sI) (y pc : Nat) (lv : sL) (st : List sV) (m : sM) (c d : Nat) (κ : sI → sOut → Bool) (q : Option (String × Nat × Nat × Nat × String × Bool)) : Bool := match q with
  | some v => s_goT y I st m c d κ v.1
  | none => s_goD L rec cut I y pc lv st m c d κ (s_ic y pc)
def s_goM (L : Nat) (rec : sRec) (cut : Option Nat) (I : sI) (y pc : Nat) (lv : sL) (st : List sV) (m : sM) (c d : Nat) (κ : sI → sOut → Bool) (q : Option (Nat × sL × List sV × sM)) : Bool := match q with
  | some q => rec cut I y q.1 q.2.1 q.2.2.1 q.2.2.2 c d κ
  | none => s_goX L rec cut I y pc lv st m c d κ (s_thr y pc)
def s_cutb (cut : Option Nat) (pc : Nat) : Bool := match cut with
  | none => false
  | some n => Nat.beq n pc
def s_go (mac : sMac) (L : Nat) (rec : sRec) (cut : Option Nat) (I : sI) (y pc : Nat) (lv : sL) (st : List sV) (m : sM) (c d : Nat) (κ : sI → sOut → Bool) : Bool :=
  bif s_cutb cut pc then κ I (.inr (lv, st), m, c, d) else s_goM L rec cut I y pc lv st m c d κ (mac y pc I lv st m c d)
/-- THE SYMBOLIC RUN: true, if every end that the run may come to keeps κ -/
def s_run (mac : sMac) (L : Nat) : Nat → sRec
  | 0 => fun _ _ _ _ _ _ _ _ _ _ => false
  | k + 1 => fun cut I y pc lv st m c d κ => s_go mac L (s_run mac L k) cut I y pc lv st m c d κ
def s_res (ε : Nat → Int32) (r : Option sV ⊕ String) : Option Value ⊕ String := match r with
  | .inl v => .inl (v.map (s_v ε))
  | .inr E => .inr E
def s_Rl (xs ε : Nat → Int32) (L : Nat) (cut : Option Nat) (y pc : Nat) (lv : gL) (st : List Value) (M : gM) (c d : Nat) (o : sOut) : Prop := match o.1 with
  | .inl r => g_R xs L y pc lv st M c d (s_res ε r, s_M ε o.2.1, o.2.2.1, o.2.2.2)
  | .inr q => ∃ pc1, cut = some pc1 ∧ ∀ o' : gOut, g_R xs L y pc1 (s_Lv ε q.1) (s_S ε q.2) (s_M ε o.2.1) o.2.2.1 o.2.2.2 o' → g_R xs L y pc lv st M c d o'
theorem s_Rl_tr {xs ε : Nat → Int32} {L : Nat} {cut : Option Nat} {y pc pc2 : Nat} {lv lv2 : gL} {st st2 : List Value} {M M2 : gM} {c d c2 d2 : Nat} {o : sOut} (h : ∀ o' : gOut, g_R xs L y pc2 lv2 st2 M2 c2 d2 o' → g_R xs L y pc lv st M c d o') (h2 : s_Rl xs ε L cut y pc2 lv2 st2 M2 c2 d2 o) : s_Rl xs ε L cut y pc lv st M c d o := by
  obtain ⟨o1, m1, c1, d1⟩ := o
  cases o1 with
  | inl r => exact h _ h2
  | inr q =>
    obtain ⟨pc1, e, h3⟩ := h2
    exact ⟨pc1, e, fun o' ho => h _ (h3 o' ho)⟩
def s_macok (xs ε : Nat → Int32) (L : Nat) (mac : sMac) : Prop := ∀ (y pc : Nat) (I : sI) (lv : sL) (st : List sV) (m : sM) (c d : Nat) (pc1 : Nat) (lv1 : sL) (st1 : List sV) (m1 : sM), mac y pc I lv st m c d = some (pc1, lv1, st1, m1) → s_wf m → s_sat ε I → s_wf m1 ∧ ∀ (o : gOut), g_R xs L y pc1 (s_Lv ε lv1) (s_S ε st1) (s_M ε m1) c d o → g_R xs L y pc (s_Lv ε lv) (s_S ε st) (s_M ε m) c d o
theorem s_nomac (xs ε : Nat → Int32) (L : Nat) : s_macok xs ε L (fun _ _ _ _ _ _ _ _ => none) := fun _ _ _ _ _ _ _ _ _ _ _ _ h => by cases h
set_option maxHeartbeats 2000000 in
theorem s_run_ok {xs ε : Nat → Int32} {L : Nat} (hL : L ≤ 6) (hxs : ∀ n, n < 6 → ε n = xs n) (h6 : ε 6 = ε 0 &&& 31) {mac : sMac} (hmac : s_macok xs ε L mac) : ∀ (k : Nat) (cut : Option Nat) (I : sI) (y pc : Nat) (lv : sL) (st : List sV) (m : sM) (c d : Nat) (κ : sI → sOut → Bool), s_run mac L k cut I y pc lv st m c d κ = true → s_sat ε I → s_wf m → ∃ (I1 : sI) (o : sOut), κ I1 o = true ∧ s_sat ε I1 ∧ s_wf o.2.1 ∧ s_Rl xs ε L cut y pc (s_Lv ε lv) (s_S ε st) (s_M ε m) c d o
  | 0, _, _, _, _, _, _, _, _, _, _, h, _, _ => by cases h
  | k + 1, cut, I, y, pc, lv, st, m, c, d, κ, h, hI, hm => by
    have ih := s_run_ok hL hxs h6 hmac k
    have h : s_go mac L (s_run mac L k) cut I y pc lv st m c d κ = true := h
    generalize s_run mac L k = rec at h ih
    unfold s_go at h
    cases hcb : s_cutb cut pc with
    | true =>
      rw [hcb] at h
      have hcut : cut = some pc := by
        unfold s_cutb at hcb
        split at hcb
        · cases hcb
        · rw [Nat.eq_of_beq_eq_true hcb]
      exact ⟨I, _, h, hI, hm, pc, hcut, fun o' ho => ho⟩
    | false =>
      rw [hcb] at h
      have h : s_goM L rec cut I y pc lv st m c d κ (mac y pc I lv st m c d) = true := h
      unfold s_goM at h
      split at h
      · next q hq =>
        obtain ⟨pc1, lv1, st1, m1⟩ := q
        obtain ⟨hm1, hgo⟩ := hmac _ _ _ _ _ _ _ _ _ _ _ _ hq hm hI
        obtain ⟨I1, o, a1, a2, a3, a4⟩ := ih _ _ _ _ _ _ _ _ _ _ h hI hm1
        exact ⟨I1, o, a1, a2, a3, s_Rl_tr (fun o' ho => hgo _ ho) a4⟩
      · unfold s_goX at h
        rw [s_thr_eq] at h
        split at h
        · next v hT =>
          unfold s_goT at h
          split at h
          · next hc =>
            refine ⟨I, _, h, hI, hm, ?_⟩
            exact g_R_thr hT (by rw [s_cats_ok]; exact hc)
          · cases h
        · next hT =>
          unfold s_goD at h
          rw [s_ic_eq] at h
          split at h
          · cases h
          · next iv hi =>
            obtain ⟨i, n⟩ := iv
            dsimp only at h
            have step : ∀ (hir : s_isret i = false) (hnc : s_nocal y i = true) (I' : sI) (hsat : s_sat ε I') (h1 : s_goQ rec cut I' y κ (s_stp L I' y i pc lv st m c d) = true), ∃ (I1 : sI) (o : sOut), κ I1 o = true ∧ s_sat ε I1 ∧ s_wf o.2.1 ∧ s_Rl xs ε L cut y pc (s_Lv ε lv) (s_S ε st) (s_M ε m) c d o := fun hir hnc I' hsat h1 => by
              have hret := s_isret_no hir y (s_S ε st)
              unfold s_goQ at h1
              split at h1
              · next q hs =>
                obtain ⟨e1, e2, e3, e4, e5⟩ := s_stp_ok hsat hL hxs h6 hm hs
                obtain ⟨I1, o, a1, a2, a3, a4⟩ := ih _ _ _ _ _ _ _ _ _ _ h1 hsat e5
                exact ⟨I1, o, a1, a2, a3, s_Rl_tr (fun o' ho => g_R_stp hT hi hret (s_nocal_ok hnc _ _ _) e1 ⟨e2, e3, e4⟩ ho) a4⟩
              · cases h1
            have steps : ∀ (hir : s_isret i = false) (hnc : s_nocal y i = true) (h1 : (s_sp I i st m).all (fun I1 => s_goQ rec cut I1 y κ (s_stp L I1 y i pc lv st m c d)) = true), ∃ (I1 : sI) (o : sOut), κ I1 o = true ∧ s_sat ε I1 ∧ s_wf o.2.1 ∧ s_Rl xs ε L cut y pc (s_Lv ε lv) (s_S ε st) (s_M ε m) c d o := fun hir hnc h1 => by
              obtain ⟨I', hI', hsat⟩ := s_sp_ok hI i st m
              exact step hir hnc I' hsat (List.all_eq_true.mp h1 I' hI')
            unfold s_goI at h
            split at h
            · next f hf =>
              obtain ⟨f1, f2, f3, f4⟩ := s_fn_i hf
              exact step f1 (f2 y) I hI (by unfold s_stp; rw [f4]; exact h)
            · next nn hf =>
              unfold s_goS at h
              cases hb0 : Nat.beq nn 0 with
              | true =>
                rw [hb0] at h
                have h0 : nn = 0 := Nat.eq_of_beq_eq_true hb0
                subst h0
                have h : s_goR I m c d κ (s_ret y i st) = true := h
                unfold s_goR at h
                split at h
                · next r hr => exact ⟨I, _, h, hI, hm, g_R_ret hT hi (s_ret_ok hr)⟩
                · cases h
              | false =>
                rw [hb0] at h
                have h0 : ¬ nn = 0 := fun e => by subst e; cases hb0
                have hir := s_fn_n hf h0
                cases hb1 : Nat.beq nn 1 with
                | true =>
                  rw [hb1] at h
                  have h1 : nn = 1 := Nat.eq_of_beq_eq_true hb1
                  subst h1
                  exact steps hir (s_fn_1 hf y) h
                | false =>
                  rw [hb1] at h
                  cases hnc : s_nocal y i with
                  | true =>
                    rw [hnc] at h
                    exact steps hir hnc h
                  | false =>
                    rw [hnc] at h
                    have hret := s_isret_no hir y (s_S ε st)
                    have h : s_goC rec cut I y pc lv m c d κ (s_cal y i st lv m) = true := h
                    unfold s_goC at h
                    split at h
                    · cases h
                    · next zq hcl =>
                      obtain ⟨z, as, rest, nn⟩ := zq
                      have hc2 := s_cal_ok (ε := ε) hm hcl
                      obtain ⟨I1, o, a1, a2, a3, a4⟩ := ih _ _ _ _ _ _ _ _ _ _ h hI hm
                      obtain ⟨o1, m1, c1, d1⟩ := o
                      dsimp only at a3
                      rw [← s_args_ok] at a4
                      cases o1 with
                      | inl r =>
                        cases r with
                        | inl v =>
                          have a1 : rec cut I1 y (pc + nn) lv (v.toList ++ rest) m1 (c + c1) (d + d1) κ = true := a1
                          obtain ⟨I2, o2, b1, b2, b3, b4⟩ := ih _ _ _ _ _ _ _ _ _ _ a1 a2 a3
                          refine ⟨I2, o2, b1, b2, b3, s_Rl_tr (fun o' ho => g_R_cal hT hi hret hc2 a4 ?_) b4⟩
                          have e9 : (Option.map (s_v ε) v).toList ++ s_S ε rest = s_S ε (v.toList ++ rest) := by
                            cases v <;> rfl
                          rw [e9]
                          exact ho
                        | inr E =>
                          have a1 : s_goH rec cut y lv κ I1 E m1 (c + c1) (d + d1) (g_find y pc E (gH y)) = true := a1
                          unfold s_goH at a1
                          split at a1
                          · next hh hf2 =>
                            obtain ⟨I2, o2, b1, b2, b3, b4⟩ := ih _ _ _ _ _ _ _ _ _ _ a1 a2 (s_dark_wf a3)
                            refine ⟨I2, o2, b1, b2, b3, s_Rl_tr (fun o' ho => g_R_calX hT hi hret hc2 a4 hf2 ?_) b4⟩
                            have e9 := s_dark_ok (ε := ε) a3
                            have e8 : ((s_M ε m1).1 + 1, va_up (s_M ε m1).2 (s_M ε m1).1 none) = s_M ε (m1.1 + 1, m1.2) := e9
                            rw [e8]
                            exact ho
                          · next hf2 => exact ⟨I1, _, a1, a2, a3, g_R_calO hT hi hret hc2 a4 hf2⟩
                          · cases a1
                      | inr q => cases a1
end
section
def s_H0 : sM := (140, [[none, none, some (.inl (7, [.inl (.ref 3), .inl (.ref 62), .inl (.ref 121), .inl (.int 0), .inl (.ref 132)])), some (.inl (6, [.inl (.ref 4), .inl (.int 0), .inl (.ref 13), .inl (.int 0), .inl (.int 2), .inl (.int 0), .inl (.int 0), .inl (.int (-1)), .inl (.int 0), .inl (.int 0), .inl (.int 0), .inl (.int 0), .inl (.int 0), .inl (.int 0), .inl (.int 0), .inl (.int 0), .inl (.int 0), .inl (.int (-1))])), some (.inr (3, .inr (.inr [some 5, some 6, some 7, some 8, some 9, some 10, some 11, some 12]))), some (.inl (2, [.inl (.int 0), .inl (.int 0), .inl (.int 0), .inl (.int 0), .inl (.int 0), .inl (.int 0), .inl (.int 0), .inl (.int 0), .inl (.int 0), .inl (.int 1), .inl (.int 0), .inl (.int 0), .inl (.int 0)])), some (.inl (2, [.inl (.int 1), .inl (.int 0), .inl (.int 0), .inl (.int 0), .inl (.int 0), .inl (.int 0), .inl (.int 0), .inl (.int 0), .inl (.int 0), .inl (.int 1), .inl (.int 0), .inl (.int 0), .inl (.int 0)])), some (.inl (2, [.inl (.int 2), .inl (.int 0), .inl (.int 0), .inl (.int 0), .inl (.int 0), .inl (.int 0), .inl (.int 0), .inl (.int 0), .inl (.int 0), .inl (.int 1), .inl (.int 0), .inl (.int 0), .inl (.int 0)])), some (.inl (2, [.inl (.int 3), .inl (.int 0), .inl (.int 0), .inl (.int 0), .inl (.int 0), .inl (.int 0), .inl (.int 0), .inl (.int 0), .inl (.int 0), .inl (.int 1), .inl (.int 0), .inl (.int 0), .inl (.int 0)])), some (.inl (2, [.inl (.int 4), .inl (.int 0), .inl (.int 0), .inl (.int 0), .inl (.int 0), .inl (.int 0), .inl (.int 0), .inl (.int 0), .inl (.int 0), .inl (.int 1), .inl (.int 0), .inl (.int 0), .inl (.int 0)])), some (.inl (2, [.inl (.int 5), .inl (.int 0), .inl (.int 0), .inl (.int 0), .inl (.int 0), .inl (.int 0), .inl (.int 0), .inl (.int 0), .inl (.int 0), .inl (.int 1), .inl (.int 0), .inl (.int 0), .inl (.int 0)])), some (.inl (2, [.inl (.int 6), .inl (.int 0), .inl (.int 0), .inl (.int 0), .inl (.int 0), .inl (.int 0), .inl (.int 0), .inl (.int 0), .inl (.int 0), .inl (.int 1), .inl (.int 0), .inl (.int 0), .inl (.int 0)])), some (.inl (2, [.inl (.int 7), .inl (.int 0), .inl (.int 0), .inl (.int 0), .inl (.int 0), .inl (.int 0), .inl (.int 0), .inl (.int 0), .inl (.int 0), .inl (.int 1), .inl (.int 0), .inl (.int 0), .inl (.int 0)])), some (.inr (4, .inr (.inr [some 14, some 22, some 30, some 38, some 46, some 54]))), some (.inl (3, [.inl (.ref 15), .inl (.int 0), .inl (.int (-1))])), some (.inr (2, .inr (.inr [some 16, some 17, some 18, some 19, some 20, some 21])))],
  [some (.inl (4, [.inl (.int 0), .inl (.int 0), .inl (.int 0), .inl (.int 0), .inl (.int (-1)), .inl (.int 0)])), some (.inl (4, [.inl (.int 0), .inl (.int 0), .inl (.int 0), .inl (.int 0), .inl (.int (-1)), .inl (.int 0)])), some (.inl (4, [.inl (.int 0), .inl (.int 0), .inl (.int 0), .inl (.int 0), .inl (.int (-1)), .inl (.int 0)])), some (.inl (4, [.inl (.int 0), .inl (.int 0), .inl (.int 0), .inl (.int 0), .inl (.int (-1)), .inl (.int 0)])), some (.inl (4, [.inl (.int 0), .inl (.int 0), .inl (.int 0), .inl (.int 0), .inl (.int (-1)), .inl (.int 0)])), some (.inl (4, [.inl (.int 0), .inl (.int 0), .inl (.int 0), .inl (.int 0), .inl (.int (-1)), .inl (.int 0)])), some (.inl (3, [.inl (.ref 23), .inl (.int 0), .inl (.int (-1))])), some (.inr (2, .inr (.inr [some 24, some 25, some 26, some 27, some 28, some 29]))), some (.inl (4, [.inl (.int 0), .inl (.int 0), .inl (.int 0), .inl (.int 0), .inl (.int (-1)), .inl (.int 0)])), some (.inl (4, [.inl (.int 0), .inl (.int 0), .inl (.int 0), .inl (.int 0), .inl (.int (-1)), .inl (.int 0)])), some (.inl (4, [.inl (.int 0), .inl (.int 0), .inl (.int 0), .inl (.int 0), .inl (.int (-1)), .inl (.int 0)])), some (.inl (4, [.inl (.int 0), .inl (.int 0), .inl (.int 0), .inl (.int 0), .inl (.int (-1)), .inl (.int 0)])), some (.inl (4, [.inl (.int 0), .inl (.int 0), .inl (.int 0), .inl (.int 0), .inl (.int (-1)), .inl (.int 0)])), some (.inl (4, [.inl (.int 0), .inl (.int 0), .inl (.int 0), .inl (.int 0), .inl (.int (-1)), .inl (.int 0)])), some (.inl (3, [.inl (.ref 31), .inl (.int 0), .inl (.int (-1))])), some (.inr (2, .inr (.inr [some 32, some 33, some 34, some 35, some 36, some 37])))],
  [some (.inl (4, [.inl (.int 0), .inl (.int 0), .inl (.int 0), .inl (.int 0), .inl (.int (-1)), .inl (.int 0)])), some (.inl (4, [.inl (.int 0), .inl (.int 0), .inl (.int 0), .inl (.int 0), .inl (.int (-1)), .inl (.int 0)])), some (.inl (4, [.inl (.int 0), .inl (.int 0), .inl (.int 0), .inl (.int 0), .inl (.int (-1)), .inl (.int 0)])), some (.inl (4, [.inl (.int 0), .inl (.int 0), .inl (.int 0), .inl (.int 0), .inl (.int (-1)), .inl (.int 0)])), some (.inl (4, [.inl (.int 0), .inl (.int 0), .inl (.int 0), .inl (.int 0), .inl (.int (-1)), .inl (.int 0)])), some (.inl (4, [.inl (.int 0), .inl (.int 0), .inl (.int 0), .inl (.int 0), .inl (.int (-1)), .inl (.int 0)])), some (.inl (3, [.inl (.ref 39), .inl (.int 0), .inl (.int (-1))])), some (.inr (2, .inr (.inr [some 40, some 41, some 42, some 43, some 44, some 45]))), some (.inl (4, [.inl (.int 0), .inl (.int 0), .inl (.int 0), .inl (.int 0), .inl (.int (-1)), .inl (.int 0)])), some (.inl (4, [.inl (.int 0), .inl (.int 0), .inl (.int 0), .inl (.int 0), .inl (.int (-1)), .inl (.int 0)])), some (.inl (4, [.inl (.int 0), .inl (.int 0), .inl (.int 0), .inl (.int 0), .inl (.int (-1)), .inl (.int 0)])), some (.inl (4, [.inl (.int 0), .inl (.int 0), .inl (.int 0), .inl (.int 0), .inl (.int (-1)), .inl (.int 0)])), some (.inl (4, [.inl (.int 0), .inl (.int 0), .inl (.int 0), .inl (.int 0), .inl (.int (-1)), .inl (.int 0)])), some (.inl (4, [.inl (.int 0), .inl (.int 0), .inl (.int 0), .inl (.int 0), .inl (.int (-1)), .inl (.int 0)])), some (.inl (3, [.inl (.ref 47), .inl (.int 0), .inl (.int (-1))])), some (.inr (2, .inr (.inr [some 48, some 49, some 50, some 51, some 52, some 53])))],
  [some (.inl (4, [.inl (.int 0), .inl (.int 0), .inl (.int 0), .inl (.int 0), .inl (.int (-1)), .inl (.int 0)])), some (.inl (4, [.inl (.int 0), .inl (.int 0), .inl (.int 0), .inl (.int 0), .inl (.int (-1)), .inl (.int 0)])), some (.inl (4, [.inl (.int 0), .inl (.int 0), .inl (.int 0), .inl (.int 0), .inl (.int (-1)), .inl (.int 0)])), some (.inl (4, [.inl (.int 0), .inl (.int 0), .inl (.int 0), .inl (.int 0), .inl (.int (-1)), .inl (.int 0)])), some (.inl (4, [.inl (.int 0), .inl (.int 0), .inl (.int 0), .inl (.int 0), .inl (.int (-1)), .inl (.int 0)])), some (.inl (4, [.inl (.int 0), .inl (.int 0), .inl (.int 0), .inl (.int 0), .inl (.int (-1)), .inl (.int 0)])), some (.inl (3, [.inl (.ref 55), .inl (.int 0), .inl (.int (-1))])), some (.inr (2, .inr (.inr [some 56, some 57, some 58, some 59, some 60, some 61]))), some (.inl (4, [.inl (.int 0), .inl (.int 0), .inl (.int 0), .inl (.int 0), .inl (.int (-1)), .inl (.int 0)])), some (.inl (4, [.inl (.int 0), .inl (.int 0), .inl (.int 0), .inl (.int 0), .inl (.int (-1)), .inl (.int 0)])), some (.inl (4, [.inl (.int 0), .inl (.int 0), .inl (.int 0), .inl (.int 0), .inl (.int (-1)), .inl (.int 0)])), some (.inl (4, [.inl (.int 0), .inl (.int 0), .inl (.int 0), .inl (.int 0), .inl (.int (-1)), .inl (.int 0)])), some (.inl (4, [.inl (.int 0), .inl (.int 0), .inl (.int 0), .inl (.int 0), .inl (.int (-1)), .inl (.int 0)])), some (.inl (4, [.inl (.int 0), .inl (.int 0), .inl (.int 0), .inl (.int 0), .inl (.int (-1)), .inl (.int 0)])), some (.inl (6, [.inl (.ref 63), .inl (.int 0), .inl (.ref 72), .inl (.int 0), .inl (.int 2), .inl (.int 0), .inl (.int 0), .inl (.int (-1)), .inl (.int 0), .inl (.int 0), .inl (.int 0), .inl (.int 0), .inl (.int 0), .inl (.int 0), .inl (.int 0), .inl (.int 0), .inl (.int 0), .inl (.int (-1))])), some (.inr (3, .inr (.inr [some 64, some 65, some 66, some 67, some 68, some 69, some 70, some 71])))],
  [some (.inl (2, [.inl (.int 0), .inl (.int 0), .inl (.int 0), .inl (.int 0), .inl (.int 0), .inl (.int 0), .inl (.int 0), .inl (.int 0), .inl (.int 0), .inl (.int 1), .inl (.int 0), .inl (.int 0), .inl (.int 0)])), some (.inl (2, [.inl (.int 1), .inl (.int 0), .inl (.int 0), .inl (.int 0), .inl (.int 0), .inl (.int 0), .inl (.int 0), .inl (.int 0), .inl (.int 0), .inl (.int 1), .inl (.int 0), .inl (.int 0), .inl (.int 0)])), some (.inl (2, [.inl (.int 2), .inl (.int 0), .inl (.int 0), .inl (.int 0), .inl (.int 0), .inl (.int 0), .inl (.int 0), .inl (.int 0), .inl (.int 0), .inl (.int 1), .inl (.int 0), .inl (.int 0), .inl (.int 0)])), some (.inl (2, [.inl (.int 3), .inl (.int 0), .inl (.int 0), .inl (.int 0), .inl (.int 0), .inl (.int 0), .inl (.int 0), .inl (.int 0), .inl (.int 0), .inl (.int 1), .inl (.int 0), .inl (.int 0), .inl (.int 0)])), some (.inl (2, [.inl (.int 4), .inl (.int 0), .inl (.int 0), .inl (.int 0), .inl (.int 0), .inl (.int 0), .inl (.int 0), .inl (.int 0), .inl (.int 0), .inl (.int 1), .inl (.int 0), .inl (.int 0), .inl (.int 0)])), some (.inl (2, [.inl (.int 5), .inl (.int 0), .inl (.int 0), .inl (.int 0), .inl (.int 0), .inl (.int 0), .inl (.int 0), .inl (.int 0), .inl (.int 0), .inl (.int 1), .inl (.int 0), .inl (.int 0), .inl (.int 0)])), some (.inl (2, [.inl (.int 6), .inl (.int 0), .inl (.int 0), .inl (.int 0), .inl (.int 0), .inl (.int 0), .inl (.int 0), .inl (.int 0), .inl (.int 0), .inl (.int 1), .inl (.int 0), .inl (.int 0), .inl (.int 0)])), some (.inl (2, [.inl (.int 7), .inl (.int 0), .inl (.int 0), .inl (.int 0), .inl (.int 0), .inl (.int 0), .inl (.int 0), .inl (.int 0), .inl (.int 0), .inl (.int 1), .inl (.int 0), .inl (.int 0), .inl (.int 0)])), some (.inr (4, .inr (.inr [some 73, some 81, some 89, some 97, some 105, some 113]))), some (.inl (3, [.inl (.ref 74), .inl (.int 0), .inl (.int (-1))])), some (.inr (2, .inr (.inr [some 75, some 76, some 77, some 78, some 79, some 80]))), some (.inl (4, [.inl (.int 0), .inl (.int 0), .inl (.int 0), .inl (.int 0), .inl (.int (-1)), .inl (.int 0)])), some (.inl (4, [.inl (.int 0), .inl (.int 0), .inl (.int 0), .inl (.int 0), .inl (.int (-1)), .inl (.int 0)])), some (.inl (4, [.inl (.int 0), .inl (.int 0), .inl (.int 0), .inl (.int 0), .inl (.int (-1)), .inl (.int 0)])), some (.inl (4, [.inl (.int 0), .inl (.int 0), .inl (.int 0), .inl (.int 0), .inl (.int (-1)), .inl (.int 0)])), some (.inl (4, [.inl (.int 0), .inl (.int 0), .inl (.int 0), .inl (.int 0), .inl (.int (-1)), .inl (.int 0)]))],
  [some (.inl (4, [.inl (.int 0), .inl (.int 0), .inl (.int 0), .inl (.int 0), .inl (.int (-1)), .inl (.int 0)])), some (.inl (3, [.inl (.ref 82), .inl (.int 0), .inl (.int (-1))])), some (.inr (2, .inr (.inr [some 83, some 84, some 85, some 86, some 87, some 88]))), some (.inl (4, [.inl (.int 0), .inl (.int 0), .inl (.int 0), .inl (.int 0), .inl (.int (-1)), .inl (.int 0)])), some (.inl (4, [.inl (.int 0), .inl (.int 0), .inl (.int 0), .inl (.int 0), .inl (.int (-1)), .inl (.int 0)])), some (.inl (4, [.inl (.int 0), .inl (.int 0), .inl (.int 0), .inl (.int 0), .inl (.int (-1)), .inl (.int 0)])), some (.inl (4, [.inl (.int 0), .inl (.int 0), .inl (.int 0), .inl (.int 0), .inl (.int (-1)), .inl (.int 0)])), some (.inl (4, [.inl (.int 0), .inl (.int 0), .inl (.int 0), .inl (.int 0), .inl (.int (-1)), .inl (.int 0)])), some (.inl (4, [.inl (.int 0), .inl (.int 0), .inl (.int 0), .inl (.int 0), .inl (.int (-1)), .inl (.int 0)])), some (.inl (3, [.inl (.ref 90), .inl (.int 0), .inl (.int (-1))])), some (.inr (2, .inr (.inr [some 91, some 92, some 93, some 94, some 95, some 96]))), some (.inl (4, [.inl (.int 0), .inl (.int 0), .inl (.int 0), .inl (.int 0), .inl (.int (-1)), .inl (.int 0)])), some (.inl (4, [.inl (.int 0), .inl (.int 0), .inl (.int 0), .inl (.int 0), .inl (.int (-1)), .inl (.int 0)])), some (.inl (4, [.inl (.int 0), .inl (.int 0), .inl (.int 0), .inl (.int 0), .inl (.int (-1)), .inl (.int 0)])), some (.inl (4, [.inl (.int 0), .inl (.int 0), .inl (.int 0), .inl (.int 0), .inl (.int (-1)), .inl (.int 0)])), some (.inl (4, [.inl (.int 0), .inl (.int 0), .inl (.int 0), .inl (.int 0), .inl (.int (-1)), .inl (.int 0)]))],
  [some (.inl (4, [.inl (.int 0), .inl (.int 0), .inl (.int 0), .inl (.int 0), .inl (.int (-1)), .inl (.int 0)])), some (.inl (3, [.inl (.ref 98), .inl (.int 0), .inl (.int (-1))])), some (.inr (2, .inr (.inr [some 99, some 100, some 101, some 102, some 103, some 104]))), some (.inl (4, [.inl (.int 0), .inl (.int 0), .inl (.int 0), .inl (.int 0), .inl (.int (-1)), .inl (.int 0)])), some (.inl (4, [.inl (.int 0), .inl (.int 0), .inl (.int 0), .inl (.int 0), .inl (.int (-1)), .inl (.int 0)])), some (.inl (4, [.inl (.int 0), .inl (.int 0), .inl (.int 0), .inl (.int 0), .inl (.int (-1)), .inl (.int 0)])), some (.inl (4, [.inl (.int 0), .inl (.int 0), .inl (.int 0), .inl (.int 0), .inl (.int (-1)), .inl (.int 0)])), some (.inl (4, [.inl (.int 0), .inl (.int 0), .inl (.int 0), .inl (.int 0), .inl (.int (-1)), .inl (.int 0)])), some (.inl (4, [.inl (.int 0), .inl (.int 0), .inl (.int 0), .inl (.int 0), .inl (.int (-1)), .inl (.int 0)])), some (.inl (3, [.inl (.ref 106), .inl (.int 0), .inl (.int (-1))])), some (.inr (2, .inr (.inr [some 107, some 108, some 109, some 110, some 111, some 112]))), some (.inl (4, [.inl (.int 0), .inl (.int 0), .inl (.int 0), .inl (.int 0), .inl (.int (-1)), .inl (.int 0)])), some (.inl (4, [.inl (.int 0), .inl (.int 0), .inl (.int 0), .inl (.int 0), .inl (.int (-1)), .inl (.int 0)])), some (.inl (4, [.inl (.int 0), .inl (.int 0), .inl (.int 0), .inl (.int 0), .inl (.int (-1)), .inl (.int 0)])), some (.inl (4, [.inl (.int 0), .inl (.int 0), .inl (.int 0), .inl (.int 0), .inl (.int (-1)), .inl (.int 0)])), some (.inl (4, [.inl (.int 0), .inl (.int 0), .inl (.int 0), .inl (.int 0), .inl (.int (-1)), .inl (.int 0)]))],
  [some (.inl (4, [.inl (.int 0), .inl (.int 0), .inl (.int 0), .inl (.int 0), .inl (.int (-1)), .inl (.int 0)])), some (.inl (3, [.inl (.ref 114), .inl (.int 0), .inl (.int (-1))])), some (.inr (2, .inr (.inr [some 115, some 116, some 117, some 118, some 119, some 120]))), some (.inl (4, [.inl (.int 0), .inl (.int 0), .inl (.int 0), .inl (.int 0), .inl (.int (-1)), .inl (.int 0)])), some (.inl (4, [.inl (.int 0), .inl (.int 0), .inl (.int 0), .inl (.int 0), .inl (.int (-1)), .inl (.int 0)])), some (.inl (4, [.inl (.int 0), .inl (.int 0), .inl (.int 0), .inl (.int 0), .inl (.int (-1)), .inl (.int 0)])), some (.inl (4, [.inl (.int 0), .inl (.int 0), .inl (.int 0), .inl (.int 0), .inl (.int (-1)), .inl (.int 0)])), some (.inl (4, [.inl (.int 0), .inl (.int 0), .inl (.int 0), .inl (.int 0), .inl (.int (-1)), .inl (.int 0)])), some (.inl (4, [.inl (.int 0), .inl (.int 0), .inl (.int 0), .inl (.int 0), .inl (.int (-1)), .inl (.int 0)])), some (.inr (5, .inr (.inr [some 122, some 123, some 124, some 125, some 126, some 127, some 128, some 129, some 130, some 131]))), some (.inl (5, [.inl (.int 0), .inl (.int 0), .inl (.int 0), .inl (.int (-1))])), some (.inl (5, [.inl (.int 0), .inl (.int 0), .inl (.int 0), .inl (.int (-1))])), some (.inl (5, [.inl (.int 0), .inl (.int 0), .inl (.int 0), .inl (.int (-1))])), some (.inl (5, [.inl (.int 0), .inl (.int 0), .inl (.int 0), .inl (.int (-1))])), some (.inl (5, [.inl (.int 0), .inl (.int 0), .inl (.int 0), .inl (.int (-1))])), some (.inl (5, [.inl (.int 0), .inl (.int 0), .inl (.int 0), .inl (.int (-1))]))],
  [some (.inl (5, [.inl (.int 0), .inl (.int 0), .inl (.int 0), .inl (.int (-1))])), some (.inl (5, [.inl (.int 0), .inl (.int 0), .inl (.int 0), .inl (.int (-1))])), some (.inl (5, [.inl (.int 0), .inl (.int 0), .inl (.int 0), .inl (.int (-1))])), some (.inl (5, [.inl (.int 0), .inl (.int 0), .inl (.int 0), .inl (.int (-1))])), some (.inr (0, .inl [.inl (.int 0), .inl (.int 0), .inl (.int 0), .inl (.int 0), .inl (.int 0), .inl (.int 0), .inl (.int 0), .inl (.int 0), .inl (.int 0), .inl (.int 0)])), some (.inl (9, [.inl (.int 0), .inl (.ref 134), .inl (.ref 135), .inl (.long 0)])), some (.inl (1, [.inl (.int 0), .inl (.ref 1), .inl (.int 0)])), some (.inl (8, [.inl (.ref 136), .inl (.ref 137), .inl (.ref 138), .inl (.int 2), .inl (.int 0), .inl (.int (-1)), .inl (.int 0), .inl (.int 0), .inl (.int 0), .inl (.int 0), .inl (.int 0), .inl (.int 0), .inl (.int 0), .inl (.int 0), .inl (.int (-1))])), some (.inl (1, [.inl (.int 0), .inl (.ref 1), .inl (.int 0)])), some (.inl (1, [.inl (.int 0), .inl (.ref 1), .inl (.int 0)])), some (.inr (0, .inl [.inl (.int 0), .inl (.int 0), .inl (.int 0), .inl (.int 0), .inl (.int 0), .inl (.int 0)])), some (.inr (1, .inr (.inl [0]))), none, none, none, none]] ++ List.replicate 31 (List.replicate 16 none))
def s_rig (x : sV) : sE := .inl (6, [.inl (.ref 4), .inl (.int 0), .inl (.ref 13), .inl (.int 0), .inl (.int 2), .inl (.int 0), x, .inl (.int (-1)), .inl (.int 0), .inl (.int 0), .inl (.int 0), .inl (.int 0), .inl (.int 0), .inl (.int 0), .inl (.int 0), .inl (.int 0), .inl (.int 0), .inl (.int (-1))])
def s_reh (x : sV) : sE := .inl (6, [.inl (.ref 63), .inl (.int 0), .inl (.ref 72), .inl (.int 0), .inl (.int 2), .inl (.int 0), x, .inl (.int (-1)), .inl (.int 0), .inl (.int 0), .inl (.int 0), .inl (.int 0), .inl (.int 0), .inl (.int 0), .inl (.int 0), .inl (.int 0), .inl (.int 0), .inl (.int (-1))])
def s_dV : DecidableEq sV := @instDecidableEqSum _ _ inferInstance inferInstance
def s_dLV : DecidableEq (List sV) := @instDecidableEqList _ s_dV
def s_dE0 : DecidableEq (List Int64 ⊕ List (Option Nat)) := @instDecidableEqSum _ _ inferInstance inferInstance
def s_dE1 : DecidableEq (List sV ⊕ List Int64 ⊕ List (Option Nat)) := @instDecidableEqSum _ _ s_dLV s_dE0
def s_dE2 : DecidableEq (Nat × (List sV ⊕ List Int64 ⊕ List (Option Nat))) := @instDecidableEqProd _ _ inferInstance s_dE1
def s_dE3 : DecidableEq (Nat × List sV) := @instDecidableEqProd _ _ inferInstance s_dLV
def s_dE : DecidableEq sE := @instDecidableEqSum _ _ s_dE3 s_dE2
def s_dOE : DecidableEq (Option sE) := fun a b => match a, b with
  | none, none => isTrue rfl
  | none, some _ => isFalse (fun h => by cases h)
  | some _, none => isFalse (fun h => by cases h)
  | some x, some y => match s_dE x y with
    | isTrue h => isTrue (congrArg some h)
    | isFalse h => isFalse (fun q => h (Option.some.inj q))
def s_dLE : DecidableEq (List (Option sE)) := @instDecidableEqList _ s_dOE
def s_dLL : DecidableEq (List (List (Option sE))) := @instDecidableEqList _ s_dLE
def s_dM : DecidableEq sM := @instDecidableEqProd _ _ inferInstance s_dLL
def s_dL1 : DecidableEq (Nat × sV) := @instDecidableEqProd _ _ inferInstance s_dV
def s_dL : DecidableEq sL := @instDecidableEqList _ s_dL1
def s_eqM (m m2 : sM) : Bool := @decide (m = m2) (s_dM m m2)
def s_eqL (m m2 : sL) : Bool := @decide (m = m2) (s_dL m m2)
theorem s_eqM_i {m m2 : sM} (h : s_eqM m m2 = true) : m = m2 := @of_decide_eq_true _ (s_dM m m2) h
theorem s_eqL_i {m m2 : sL} (h : s_eqL m m2 = true) : m = m2 := @of_decide_eq_true _ (s_dL m m2) h
def s_eqK (lv : sL) (m : sM) (o : sOut) : Bool := match o with
  | (.inr (lv1, st1), m1, c1, d1) => s_eqL lv1 lv && (st1.isEmpty && (s_eqM m1 m && (decide (c1 = 0) && decide (d1 = 0))))
  | _ => false
theorem s_eqK_i {lv : sL} {m : sM} {o : sOut} (h : s_eqK lv m o = true) : o = (.inr (lv, []), m, 0, 0) := by
  unfold s_eqK at h
  split at h
  · next lv1 st1 m1 c1 d1 =>
    simp only [Bool.and_eq_true, decide_eq_true_eq, List.isEmpty_iff] at h
    obtain ⟨h1, h2, h3, h4, h5⟩ := h
    rw [s_eqL_i h1, h2, s_eqM_i h3, h4, h5]
  · cases h
def s_lvP (x : sV) : sL := [(3, x), (2, .inl (.int 0)), (0, .inl (.ref 2)), (1, .inr (1, 0))]
def s_lvW (x : sV) : sL := [(2, x), (0, .inl (.ref 2)), (1, .inr (1, 0))]
def s_HP (x : sV) : sM := s_wr s_H0 3 (some (s_rig x))
def s_HW (x : sV) : sM := s_wr s_H0 62 (some (s_reh x))
def s_in1 (I : sI) (n : Int) : Bool := match I[1]? with
  | some r => decide (1 ≤ r.1) && decide (r.2 ≤ n)
  | none => false
def s_macA (y : Nat) (I : sI) (lv : sL) (st : List sV) (m : sM) (c d : Nat) : Option (Nat × sL × List sV × sM) := if y = 102 ∧ s_eqL lv (s_lvP (.inl (.int 0))) = true ∧ st.isEmpty = true ∧ c = 0 ∧ d = 0 ∧ s_in1 I 120 = true ∧ s_eqM m s_H0 = true then some (74, s_lvP (.inr (1, 0)), [], s_HP (.inr (1, 0))) else none
def s_macB (y : Nat) (I : sI) (lv : sL) (st : List sV) (m : sM) (c d : Nat) : Option (Nat × sL × List sV × sM) := if y = 149 ∧ s_eqL lv (s_lvW (.inl (.int 0))) = true ∧ st.isEmpty = true ∧ c = 0 ∧ d = 0 ∧ s_in1 I 120 = true ∧ s_eqM m s_H0 = true then some (53, s_lvW (.inr (1, 0)), [], s_HW (.inr (1, 0))) else none
def s_mac : sMac := fun y pc I lv st m c d => bif Nat.beq pc 56 then s_macA y I lv st m c d else bif Nat.beq pc 35 then s_macB y I lv st m c d else none
def s_mac0 : sMac := fun _ _ _ _ _ _ _ _ => none
/-- no symbol in it -/
def s_cl (v : sV) : Bool := match v with
  | .inl _ => true
  | .inr _ => false
def s_clE (e : Option sE) : Bool := match e with
  | none => true
  | some (.inl o) => o.2.all s_cl
  | some (.inr (_, .inl l)) => l.all s_cl
  | some (.inr _) => true
theorem s_cl_v {ε ε2 : Nat → Int32} {v : sV} (h : s_cl v = true) : s_v ε v = s_v ε2 v := by
  cases v with
  | inl w => rfl
  | inr q => cases h
theorem s_cl_i {ε ε2 : Nat → Int32} {v : sV} (h : s_cl v = true) : s_i ε v = s_i ε2 v := by
  cases v with
  | inl w => cases w <;> rfl
  | inr q => cases h
theorem s_clE_ok {ε ε2 : Nat → Int32} {e : Option sE} (h : s_clE e = true) : e.map (s_e ε) = e.map (s_e ε2) := by
  rcases e with _ | (⟨ci, fs⟩ | ⟨t, l | l | l⟩)
  · rfl
  · show some (Sum.inl (ci, fs.map (s_v ε))) = some (Sum.inl (ci, fs.map (s_v ε2)))
    rw [List.map_congr_left fun v hv => s_cl_v (ε := ε) (ε2 := ε2) (List.all_eq_true.mp h v hv)]
  · show some (Sum.inr (t, l.length, Sum.inl (fun i => s_i ε (l.getD i (.inl (.int 0)))))) = some (Sum.inr (t, l.length, Sum.inl (fun i => s_i ε2 (l.getD i (.inl (.int 0))))))
    have e9 : (fun i => s_i ε (l.getD i (.inl (.int 0)))) = fun i => s_i ε2 (l.getD i (.inl (.int 0))) := funext fun i => by
      rcases Nat.lt_or_ge i l.length with hi | hi
      · exact s_cl_i (List.all_eq_true.mp h _ (g_getD_mem hi))
      · rw [g_getD_ge hi]; rfl
    rw [e9]
  · rfl
  · rfl
theorem s_clM_ok {ε ε2 : Nat → Int32} {m : sM} (h : m.2.all (fun c => c.all s_clE) = true) : s_M ε m = s_M ε2 m := by
  unfold s_M
  congr 1
  funext a
  unfold s_rd
  rcases Nat.lt_or_ge (a / 16) m.2.length with h1 | h1
  · have h2 := List.all_eq_true.mp h _ (g_getD_mem (d := []) h1)
    rcases Nat.lt_or_ge (a % 16) (m.2.getD (a / 16) []).length with h3 | h3
    · exact s_clE_ok (List.all_eq_true.mp h2 _ (g_getD_mem h3))
    · rw [g_getD_ge h3]; rfl
  · rw [g_getD_ge h1]; rfl
def s_wfb (m : sM) : Bool := (List.range (m.2.length * 16)).all (fun a => decide (a < m.1) || (s_rd m a).isNone)
theorem s_wfb_ok {m : sM} (h : s_wfb m = true) : s_wf m := fun a ha => by
  rcases Nat.lt_or_ge a (m.2.length * 16) with h1 | h1
  · have h2 := List.all_eq_true.mp h a (List.mem_range.mpr h1)
    rcases Bool.or_eq_true_iff.mp h2 with h3 | h3
    · exact absurd (of_decide_eq_true h3) (Nat.not_lt.mpr ha)
    · exact Option.isNone_iff_eq_none.mp h3
  · unfold s_rd
    rw [g_getD_ge (L := m.2) (by omega)]
    rfl
set_option maxRecDepth 100000 in
theorem s_H0_wf : s_wf s_H0 := s_wfb_ok (by decide +kernel)
set_option maxRecDepth 100000 in
theorem s_H0_cl : s_H0.2.all (fun c => c.all s_clE) = true := by decide +kernel
theorem s_H0_3 : (s_rd s_H0 3).isSome = true := by decide +kernel
theorem s_H0_62 : (s_rd s_H0 62).isSome = true := by decide +kernel
theorem s_HP_eq {ε ε2 : Nat → Int32} {v w : sV} (h : s_v ε v = s_v ε2 w) : s_M ε (s_HP v) = s_M ε2 (s_HP w) := by
  have e1 := s_set_ok (ε := ε) s_H0_wf (a := 3) (e := s_rig v) s_H0_3
  have e2 := s_set_ok (ε := ε2) s_H0_wf (a := 3) (e := s_rig w) s_H0_3
  have e3 : s_e ε (s_rig v) = s_e ε2 (s_rig w) := by
    simp only [s_e, s_rig, List.map_cons, List.map_nil, h]
    rfl
  unfold s_HP
  rw [← e1, ← e2, s_clM_ok (ε := ε) (ε2 := ε2) s_H0_cl, e3]
theorem s_HW_eq {ε ε2 : Nat → Int32} {v w : sV} (h : s_v ε v = s_v ε2 w) : s_M ε (s_HW v) = s_M ε2 (s_HW w) := by
  have e1 := s_set_ok (ε := ε) s_H0_wf (a := 62) (e := s_reh v) s_H0_62
  have e2 := s_set_ok (ε := ε2) s_H0_wf (a := 62) (e := s_reh w) s_H0_62
  have e3 : s_e ε (s_reh v) = s_e ε2 (s_reh w) := by
    simp only [s_e, s_reh, List.map_cons, List.map_nil, h]
    rfl
  unfold s_HW
  rw [← e1, ← e2, s_clM_ok (ε := ε) (ε2 := ε2) s_H0_cl, e3]
set_option maxRecDepth 100000 in
theorem s_HP_0 (ε : Nat → Int32) : s_M ε (s_HP (.inl (.int 0))) = s_M ε s_H0 := by
  have e : s_HP (.inl (.int 0)) = s_H0 := s_eqM_i (by decide +kernel)
  rw [e]
set_option maxRecDepth 100000 in
theorem s_HW_0 (ε : Nat → Int32) : s_M ε (s_HW (.inl (.int 0))) = s_M ε s_H0 := by
  have e : s_HW (.inl (.int 0)) = s_H0 := s_eqM_i (by decide +kernel)
  rw [e]
set_option maxRecDepth 100000 in
theorem s_HP_wf (v : sV) : s_wf (s_HP v) := s_set_wf s_H0_wf s_H0_3 _
theorem s_HW_wf (v : sV) : s_wf (s_HW v) := s_set_wf s_H0_wf s_H0_62 _
theorem s_lvP_eq {ε ε2 : Nat → Int32} {v w : sV} (h : s_v ε v = s_v ε2 w) (h1 : ε 1 = ε2 1) : s_Lv ε (s_lvP v) = s_Lv ε2 (s_lvP w) := by
  show [(3, s_v ε v), (2, Value.int 0), (0, Value.ref 2), (1, Value.int (ε 1 + 0))] = [(3, s_v ε2 w), (2, Value.int 0), (0, Value.ref 2), (1, Value.int (ε2 1 + 0))]
  rw [h, h1]
theorem s_lvW_eq {ε ε2 : Nat → Int32} {v w : sV} (h : s_v ε v = s_v ε2 w) (h1 : ε 1 = ε2 1) : s_Lv ε (s_lvW v) = s_Lv ε2 (s_lvW w) := by
  show [(2, s_v ε v), (0, Value.ref 2), (1, Value.int (ε 1 + 0))] = [(2, s_v ε2 w), (0, Value.ref 2), (1, Value.int (ε2 1 + 0))]
  rw [h, h1]
/-- a loop's head: counter and bound are loaded and compared -/
theorem s_head {xs : Nat → Int32} {L y pc l0 l1 l2 : Nat} {kf k1 : Fin 4} {off : Int} {pcE : Nat} (hT0 : gThr y pc = none) (hT1 : gThr y (pc + 1) = none) (hT2 : gThr y (pc + 1 + 1) = none) (hI0 : gI y pc = some (.iload_n kf, l0)) (hI1 : gI y (pc + 1) = some (.iload_n k1, l1)) (hI2 : gI y (pc + 1 + 1) = some (.if_icmp .ge off, l2)) (htg : g_tg (pc + 1 + 1) off = some pcE) {lv : gL} {M : gM} {c d : Nat} {x s : Int32} (hl0 : lv.lookup (kf : Nat) = some (.int x)) (hl1 : lv.lookup (k1 : Nat) = some (.int s)) {o : gOut} (h : g_R xs L y (if g_c2 .ge x s = true then pcE else pc + 1 + 1 + 3) lv [] M c d o) : g_R xs L y pc lv [] M c d o := by
  refine g_R_stp hT0 hI0 rfl (s_nocal_ok rfl _ _ _) (q := (pc + 1, lv, [.int x], M, c, d)) (by simp only [g_stp, hl0]) ⟨Nat.le_refl _, Nat.le_refl _, Nat.le_refl _⟩ ?_
  refine g_R_stp hT1 hI1 rfl (s_nocal_ok rfl _ _ _) (q := (pc + 1 + 1, lv, [.int s, .int x], M, c, d)) (by simp only [g_stp, hl1]) ⟨Nat.le_refl _, Nat.le_refl _, Nat.le_refl _⟩ ?_
  exact g_R_stp hT2 hI2 rfl (s_nocal_ok rfl _ _ _) (q := (if g_c2 .ge x s = true then pcE else pc + 1 + 1 + 3, lv, [], M, c, d)) (by simp only [g_stp, htg, Option.bind_some, g_pII]) ⟨Nat.le_refl _, Nat.le_refl _, Nat.le_refl _⟩ h
theorem s_ofNat_toInt {n : Nat} (h : n ≤ 1000) : (Int32.ofNat n).toInt = (n : Int) := by
  have : n < 2 ^ 31 := by omega
  exact Int32.toInt_ofNat_of_lt this
/-- the loop, from its head to its end -/
theorem s_lp {xs : Nat → Int32} {L y pc l0 l1 l2 : Nat} {kf k1 : Fin 4} {off : Int} {pcE n : Nat} (hT0 : gThr y pc = none) (hT1 : gThr y (pc + 1) = none) (hT2 : gThr y (pc + 1 + 1) = none) (hI0 : gI y pc = some (.iload_n kf, l0)) (hI1 : gI y (pc + 1) = some (.iload_n k1, l1)) (hI2 : gI y (pc + 1 + 1) = some (.if_icmp .ge off, l2)) (htg : g_tg (pc + 1 + 1) off = some pcE) {lvf : Nat → gL} {Mf : Nat → gM} (hl0 : ∀ j, (lvf j).lookup (kf : Nat) = some (.int (Int32.ofNat j))) (hl1 : ∀ j, (lvf j).lookup (k1 : Nat) = some (.int (Int32.ofNat n))) (hn : n ≤ 1000) {o : gOut}
    (hbody : ∀ j, j < n → g_R xs L y pc (lvf (j + 1)) [] (Mf (j + 1)) 0 0 o → g_R xs L y (pc + 1 + 1 + 3) (lvf j) [] (Mf j) 0 0 o) (h : g_R xs L y pcE (lvf n) [] (Mf n) 0 0 o) : ∀ (r j : Nat), j + r = n → g_R xs L y pc (lvf j) [] (Mf j) 0 0 o
  | 0, j, hj => by
    have hjn : j = n := by omega
    subst hjn
    refine s_head hT0 hT1 hT2 hI0 hI1 hI2 htg (hl0 j) (hl1 j) ?_
    rw [if_pos (by rw [s_c2_ok .ge (Or.inr (Or.inl ⟨rfl, rfl⟩))]; rfl)]
    exact h
  | r + 1, j, hj => by
    have ih := s_lp hT0 hT1 hT2 hI0 hI1 hI2 htg hl0 hl1 hn hbody h r (j + 1) (by omega)
    refine s_head hT0 hT1 hT2 hI0 hI1 hI2 htg (hl0 j) (hl1 j) ?_
    rw [if_neg (by rw [s_c2_ok .ge (Or.inl ⟨rfl, by rw [s_ofNat_toInt (by omega), s_ofNat_toInt hn]; omega⟩)]; decide)]
    exact hbody j (by omega) ih
def s_I7 : sI := [(-2147483648, 2147483647), (-2147483648, 2147483647), (-2147483648, 2147483647), (-2147483648, 2147483647), (-2147483648, 2147483647), (-2147483648, 2147483647), (-2147483648, 2147483647), (0, 3000)]
theorem s_full (x : Int32) : (-2147483648 : Int) ≤ x.toInt ∧ x.toInt ≤ 2147483647 := by
  have h1 := Int32.le_toInt x
  have h2 := Int32.toInt_lt x
  omega
theorem s_I7_ok {ε : Nat → Int32} (h : 0 ≤ (ε 7).toInt ∧ (ε 7).toInt ≤ 3000) : s_sat ε s_I7 := fun n r hr => by
  have hc : n < 8 := (List.getElem?_eq_some_iff.mp hr).1
  match n, hc, hr with
  | 0, _, hr => cases hr; exact s_full _
  | 1, _, hr => cases hr; exact s_full _
  | 2, _, hr => cases hr; exact s_full _
  | 3, _, hr => cases hr; exact s_full _
  | 4, _, hr => cases hr; exact s_full _
  | 5, _, hr => cases hr; exact s_full _
  | 6, _, hr => cases hr; exact s_full _
  | 7, _, hr => cases hr; exact h
set_option maxRecDepth 100000 in
theorem s_bodyP : s_run s_mac0 6 400 (some 56) s_I7 102 61 (s_lvP (.inr (7, 0))) [] (s_HP (.inr (7, 0))) 0 0 (fun _ o => s_eqK (s_lvP (.inr (7, 1))) (s_HP (.inr (7, 1))) o) = true := by decide +kernel
set_option maxRecDepth 100000 in
theorem s_bodyW : s_run s_mac0 6 400 (some 35) s_I7 149 40 (s_lvW (.inr (7, 0))) [] (s_HW (.inr (7, 0))) 0 0 (fun _ o => s_eqK (s_lvW (.inr (7, 1))) (s_HW (.inr (7, 1))) o) = true := by decide +kernel
def s_ε7 (ε : Nat → Int32) (j : Nat) : Nat → Int32 := fun k => if k = 7 then Int32.ofNat j else ε k
theorem s_v7_0 (ε : Nat → Int32) (j : Nat) : s_v (s_ε7 ε j) (.inr (7, 0)) = s_v ε (.inl (.int (Int32.ofNat j))) := by
  show Value.int (Int32.ofNat j + 0) = Value.int (Int32.ofNat j)
  rw [Int32.add_zero]
theorem s_v7_1 (ε : Nat → Int32) (j : Nat) : s_v (s_ε7 ε j) (.inr (7, 1)) = s_v ε (.inl (.int (Int32.ofNat (j + 1)))) := by
  show Value.int (Int32.ofNat j + 1) = Value.int (Int32.ofNat (j + 1))
  rw [Int32.ofNat_add]
  rfl
theorem s_in1_i {ε : Nat → Int32} {I : sI} {k : Int} (hs : s_sat ε I) (h : s_in1 I k = true) : 1 ≤ (ε 1).toInt ∧ (ε 1).toInt ≤ k := by
  unfold s_in1 at h
  split at h
  · next r hr =>
    simp only [Bool.and_eq_true, decide_eq_true_eq] at h
    have := hs 1 r hr
    omega
  · cases h
set_option maxRecDepth 100000 in
theorem s_mac_ok {xs ε : Nat → Int32} (hxs : ∀ n, n < 6 → ε n = xs n) (h6 : ε 6 = ε 0 &&& 31) : s_macok xs ε 6 s_mac := by
  intro y pc I lv st m c d pc1 lv1 st1 m1 h hm hI
  unfold s_mac at h
  cases hb1 : Nat.beq pc 56 with
  | true =>
   rw [hb1] at h
   change s_macA y I lv st m c d = some (pc1, lv1, st1, m1) at h
   unfold s_macA at h
   split at h
   · next hc =>
    have hpc := Nat.eq_of_beq_eq_true hb1
    subst hpc
    obtain ⟨rfl, hlv, hst, rfl, rfl, hin, hmm⟩ := hc
    have hlv := s_eqL_i hlv
    have hmm := s_eqM_i hmm
    have hst := List.isEmpty_iff.mp hst
    subst hlv hmm hst
    cases h
    refine ⟨s_HP_wf _, fun o ho => ?_⟩
    obtain ⟨hb1, hb2⟩ := s_in1_i hI hin
    have hn : Int32.ofNat (ε 1).toInt.toNat = ε 1 := by
      apply Int32.toInt_inj.mp
      rw [s_ofNat_toInt (by omega)]
      omega
    have hbody : ∀ j, j < (ε 1).toInt.toNat → g_R xs 6 102 56 (s_Lv ε (s_lvP (.inl (.int (Int32.ofNat (j + 1)))))) [] (s_M ε (s_HP (.inl (.int (Int32.ofNat (j + 1)))))) 0 0 o → g_R xs 6 102 (56 + 1 + 1 + 3) (s_Lv ε (s_lvP (.inl (.int (Int32.ofNat j))))) [] (s_M ε (s_HP (.inl (.int (Int32.ofNat j))))) 0 0 o := fun j hj hg => by
      have hx7 : ∀ n, n < 6 → s_ε7 ε j n = xs n := fun n hn => by unfold s_ε7; rw [if_neg (by omega)]; exact hxs n hn
      obtain ⟨I1, o1, a1, a2, a3, a4⟩ := s_run_ok (xs := xs) (ε := s_ε7 ε j) (Nat.le_refl 6) hx7 h6 (s_nomac _ _ _) _ _ _ _ _ _ _ _ _ _ _ s_bodyP (s_I7_ok (by show 0 ≤ (Int32.ofNat j).toInt ∧ (Int32.ofNat j).toInt ≤ 3000; rw [s_ofNat_toInt (by omega)]; omega)) (s_HP_wf _)
      have a1 := s_eqK_i a1
      subst a1
      obtain ⟨pc2, hp, a5⟩ := a4
      cases hp
      have a6 := a5 o
      rw [s_lvP_eq (s_v7_1 ε j) rfl, s_HP_eq (s_v7_1 ε j), s_lvP_eq (s_v7_0 ε j) rfl, s_HP_eq (s_v7_0 ε j)] at a6
      exact a6 hg
    have hend : g_R xs 6 102 74 (s_Lv ε (s_lvP (.inl (.int (Int32.ofNat (ε 1).toInt.toNat))))) [] (s_M ε (s_HP (.inl (.int (Int32.ofNat (ε 1).toInt.toNat))))) 0 0 o := by
      have e9 : s_v ε (.inr (1, 0)) = s_v ε (.inl (.int (Int32.ofNat (ε 1).toInt.toNat))) := by
        show Value.int (ε 1 + 0) = Value.int _
        rw [Int32.add_zero, hn]
      rw [← s_lvP_eq e9 rfl, ← s_HP_eq e9]
      exact ho
    have h9 := s_lp (xs := xs) (L := 6) (y := 102) (pc := 56) (kf := 3) (k1 := 1) (off := 16) (pcE := 74) (n := (ε 1).toInt.toNat) (l0 := 1) (l1 := 1) (l2 := 3) (by decide +kernel) (by decide +kernel) (by decide +kernel) (by decide +kernel) (by decide +kernel) (by decide +kernel) (by decide +kernel) (lvf := fun j => s_Lv ε (s_lvP (.inl (.int (Int32.ofNat j))))) (Mf := fun j => s_M ε (s_HP (.inl (.int (Int32.ofNat j))))) (fun j => rfl) (fun j => by rw [hn]; show some (Value.int (ε 1 + 0)) = _; rw [Int32.add_zero]) (by omega) hbody hend _ 0 (Nat.zero_add _)
    have e0 := s_HP_0 ε
    rw [← e0]
    exact h9
   · cases h
  | false =>
   rw [hb1] at h
   cases hb2 : Nat.beq pc 35 with
   | false => rw [hb2] at h; cases h
   | true =>
    rw [hb2] at h
    change s_macB y I lv st m c d = some (pc1, lv1, st1, m1) at h
    unfold s_macB at h
    split at h
    · next hc =>
      have hpc := Nat.eq_of_beq_eq_true hb2
      subst hpc
      obtain ⟨rfl, hlv, hst, rfl, rfl, hin, hmm⟩ := hc
      have hlv := s_eqL_i hlv
      have hmm := s_eqM_i hmm
      have hst := List.isEmpty_iff.mp hst
      subst hlv hmm hst
      cases h
      refine ⟨s_HW_wf _, fun o ho => ?_⟩
      obtain ⟨hb1, hb2⟩ := s_in1_i hI hin
      have hn : Int32.ofNat (ε 1).toInt.toNat = ε 1 := by
        apply Int32.toInt_inj.mp
        rw [s_ofNat_toInt (by omega)]
        omega
      have hbody : ∀ j, j < (ε 1).toInt.toNat → g_R xs 6 149 35 (s_Lv ε (s_lvW (.inl (.int (Int32.ofNat (j + 1)))))) [] (s_M ε (s_HW (.inl (.int (Int32.ofNat (j + 1)))))) 0 0 o → g_R xs 6 149 (35 + 1 + 1 + 3) (s_Lv ε (s_lvW (.inl (.int (Int32.ofNat j))))) [] (s_M ε (s_HW (.inl (.int (Int32.ofNat j))))) 0 0 o := fun j hj hg => by
        have hx7 : ∀ n, n < 6 → s_ε7 ε j n = xs n := fun n hn => by unfold s_ε7; rw [if_neg (by omega)]; exact hxs n hn
        obtain ⟨I1, o1, a1, a2, a3, a4⟩ := s_run_ok (xs := xs) (ε := s_ε7 ε j) (Nat.le_refl 6) hx7 h6 (s_nomac _ _ _) _ _ _ _ _ _ _ _ _ _ _ s_bodyW (s_I7_ok (by show 0 ≤ (Int32.ofNat j).toInt ∧ (Int32.ofNat j).toInt ≤ 3000; rw [s_ofNat_toInt (by omega)]; omega)) (s_HW_wf _)
        have a1 := s_eqK_i a1
        subst a1
        obtain ⟨pc2, hp, a5⟩ := a4
        cases hp
        have a6 := a5 o
        rw [s_lvW_eq (s_v7_1 ε j) rfl, s_HW_eq (s_v7_1 ε j), s_lvW_eq (s_v7_0 ε j) rfl, s_HW_eq (s_v7_0 ε j)] at a6
        exact a6 hg
      have hend : g_R xs 6 149 53 (s_Lv ε (s_lvW (.inl (.int (Int32.ofNat (ε 1).toInt.toNat))))) [] (s_M ε (s_HW (.inl (.int (Int32.ofNat (ε 1).toInt.toNat))))) 0 0 o := by
        have e9 : s_v ε (.inr (1, 0)) = s_v ε (.inl (.int (Int32.ofNat (ε 1).toInt.toNat))) := by
          show Value.int (ε 1 + 0) = Value.int _
          rw [Int32.add_zero, hn]
        rw [← s_lvW_eq e9 rfl, ← s_HW_eq e9]
        exact ho
      have h9 := s_lp (xs := xs) (L := 6) (y := 149) (pc := 35) (kf := 2) (k1 := 1) (off := 16) (pcE := 53) (n := (ε 1).toInt.toNat) (l0 := 1) (l1 := 1) (l2 := 3) (by decide +kernel) (by decide +kernel) (by decide +kernel) (by decide +kernel) (by decide +kernel) (by decide +kernel) (by decide +kernel) (lvf := fun j => s_Lv ε (s_lvW (.inl (.int (Int32.ofNat j))))) (Mf := fun j => s_M ε (s_HW (.inl (.int (Int32.ofNat j))))) (fun j => rfl) (fun j => by rw [hn]; show some (Value.int (ε 1 + 0)) = _; rw [Int32.add_zero]) (by omega) hbody hend _ 0 (Nat.zero_add _)
      have e0 := s_HW_0 ε
      rw [← e0]
      exact h9
    · cases h
end
section
def s_I (a b : Int) : sI := [(-2147483648, 2147483647), (-2147483648, 2147483647), (-2147483648, 2147483647), (-2147483648, 2147483647), (-2147483648, 2147483647), (-2147483648, 2147483647), (a, b)]
def s_M0 : sM := (2, List.replicate 40 (List.replicate 16 none))
def s_fin : sI → sOut → Bool := fun _ o => match o with
  | (.inl (.inl (some (.inl (.int v)))), _, c, d) => decide (v = 1) && (decide (c ≤ 722355) && decide (d ≤ 6935171))
  | _ => false
set_option maxRecDepth 1000000 in
theorem s_R0 : s_run (fun _ _ _ _ _ _ _ _ => none) 0 100000 none (s_I 0 31) g_ylaw 0 [(0, .inl (.ref 0))] [] s_M0 0 0 s_fin = true := by decide +kernel
set_option maxRecDepth 1000000 in
theorem s_R1 : s_run (fun _ _ _ _ _ _ _ _ => none) 1 100000 none (s_I 0 31) g_ylaw 0 [(0, .inl (.ref 0))] [] s_M0 0 0 s_fin = true := by decide +kernel
set_option maxRecDepth 1000000 in
theorem s_R2 : s_run (fun _ _ _ _ _ _ _ _ => none) 2 100000 none (s_I 0 31) g_ylaw 0 [(0, .inl (.ref 0))] [] s_M0 0 0 s_fin = true := by decide +kernel
set_option maxRecDepth 1000000 in
theorem s_R3 : s_run (fun _ _ _ _ _ _ _ _ => none) 3 100000 none (s_I 0 31) g_ylaw 0 [(0, .inl (.ref 0))] [] s_M0 0 0 s_fin = true := by decide +kernel
set_option maxRecDepth 1000000 in
theorem s_R4 : s_run (fun _ _ _ _ _ _ _ _ => none) 4 100000 none (s_I 0 31) g_ylaw 0 [(0, .inl (.ref 0))] [] s_M0 0 0 s_fin = true := by decide +kernel
set_option maxRecDepth 1000000 in
theorem s_R5 : s_run (fun _ _ _ _ _ _ _ _ => none) 5 100000 none (s_I 0 31) g_ylaw 0 [(0, .inl (.ref 0))] [] s_M0 0 0 s_fin = true := by decide +kernel
end
