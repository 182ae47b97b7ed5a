section
-- ===== PART A: goes FIRST, ahead of the names: the tables' words, and 'selects' of the private methods out of them =====
/-- a private method of a class that the tables say can be made, by its rows of tables_1 -/
def lw_okq (q : MethodName × Nat) : Prop := (q.1.cls ≠ "java/lang/invoke/MethodHandle" ∧ q.1.cls ≠ "java/lang/invoke/VarHandle") ∧ Cond.instantiable q.1.cls q.2 ∈ tables_1 ∧ Cond.privateMethod q.1 ∈ tables_1 ∧ Cond.instanceMethod q.1 ∈ tables_1
theorem lw_p0 : lw_okq (⟨"AxleKeeper$Line", "empty", "()I"⟩, 15) := ⟨⟨by decide +kernel, by decide +kernel⟩, List.mem_of_getElem? (i := 20) (by decide +kernel), List.mem_of_getElem? (i := 199) (by decide +kernel), List.mem_of_getElem? (i := 200) (by decide +kernel)⟩
theorem lw_p1 : lw_okq (⟨"AxleKeeper$Line", "explains", "(II)Z"⟩, 15) := ⟨⟨by decide +kernel, by decide +kernel⟩, List.mem_of_getElem? (i := 20) (by decide +kernel), List.mem_of_getElem? (i := 220) (by decide +kernel), List.mem_of_getElem? (i := 221) (by decide +kernel)⟩
theorem lw_p2 : lw_okq (⟨"AxleKeeper$Line", "rightOf", "(I)I"⟩, 15) := ⟨⟨by decide +kernel, by decide +kernel⟩, List.mem_of_getElem? (i := 20) (by decide +kernel), List.mem_of_getElem? (i := 224) (by decide +kernel), List.mem_of_getElem? (i := 225) (by decide +kernel)⟩
theorem lw_p3 : lw_okq (⟨"AxleKeeper$Line", "leftOf", "(I)I"⟩, 15) := ⟨⟨by decide +kernel, by decide +kernel⟩, List.mem_of_getElem? (i := 20) (by decide +kernel), List.mem_of_getElem? (i := 228) (by decide +kernel), List.mem_of_getElem? (i := 229) (by decide +kernel)⟩
theorem lw_p4 : lw_okq (⟨"AxleKeeper$Line", "hasBadHead", "(I)Z"⟩, 15) := ⟨⟨by decide +kernel, by decide +kernel⟩, List.mem_of_getElem? (i := 20) (by decide +kernel), List.mem_of_getElem? (i := 259) (by decide +kernel), List.mem_of_getElem? (i := 260) (by decide +kernel)⟩
theorem lw_p5 : lw_okq (⟨"AxleKeeper$Line", "isBad", "(I)Z"⟩, 15) := ⟨⟨by decide +kernel, by decide +kernel⟩, List.mem_of_getElem? (i := 20) (by decide +kernel), List.mem_of_getElem? (i := 263) (by decide +kernel), List.mem_of_getElem? (i := 264) (by decide +kernel)⟩
theorem lw_p6 : lw_okq (⟨"AxleKeeper$Line", "rightHead", "(I)I"⟩, 15) := ⟨⟨by decide +kernel, by decide +kernel⟩, List.mem_of_getElem? (i := 20) (by decide +kernel), List.mem_of_getElem? (i := 267) (by decide +kernel), List.mem_of_getElem? (i := 268) (by decide +kernel)⟩
theorem lw_p7 : lw_okq (⟨"AxleKeeper$Line", "countWheel", "(I)I"⟩, 15) := ⟨⟨by decide +kernel, by decide +kernel⟩, List.mem_of_getElem? (i := 20) (by decide +kernel), List.mem_of_getElem? (i := 332) (by decide +kernel), List.mem_of_getElem? (i := 333) (by decide +kernel)⟩
theorem lw_p8 : lw_okq (⟨"AxleKeeper", "refusalToMove", "(III)I"⟩, 6) := ⟨⟨by decide +kernel, by decide +kernel⟩, List.mem_of_getElem? (i := 12) (by decide +kernel), List.mem_of_getElem? (i := 340) (by decide +kernel), List.mem_of_getElem? (i := 341) (by decide +kernel)⟩
theorem lw_p9 : lw_okq (⟨"AxleKeeper$Line", "from", "(II)I"⟩, 15) := ⟨⟨by decide +kernel, by decide +kernel⟩, List.mem_of_getElem? (i := 20) (by decide +kernel), List.mem_of_getElem? (i := 348) (by decide +kernel), List.mem_of_getElem? (i := 349) (by decide +kernel)⟩
theorem lw_p10 : lw_okq (⟨"AxleKeeper$Line", "hear", "(I)V"⟩, 15) := ⟨⟨by decide +kernel, by decide +kernel⟩, List.mem_of_getElem? (i := 20) (by decide +kernel), List.mem_of_getElem? (i := 376) (by decide +kernel), List.mem_of_getElem? (i := 377) (by decide +kernel)⟩
theorem lw_p11 : lw_okq (⟨"AxleKeeper$Line", "receive", "(I)V"⟩, 15) := ⟨⟨by decide +kernel, by decide +kernel⟩, List.mem_of_getElem? (i := 20) (by decide +kernel), List.mem_of_getElem? (i := 380) (by decide +kernel), List.mem_of_getElem? (i := 381) (by decide +kernel)⟩
theorem lw_p12 : lw_okq (⟨"AxleKeeper$Line", "addToSum", "(II)V"⟩, 15) := ⟨⟨by decide +kernel, by decide +kernel⟩, List.mem_of_getElem? (i := 20) (by decide +kernel), List.mem_of_getElem? (i := 384) (by decide +kernel), List.mem_of_getElem? (i := 385) (by decide +kernel)⟩
theorem lw_p13 : lw_okq (⟨"AxleKeeper$Line", "judge", "(I)V"⟩, 15) := ⟨⟨by decide +kernel, by decide +kernel⟩, List.mem_of_getElem? (i := 20) (by decide +kernel), List.mem_of_getElem? (i := 388) (by decide +kernel), List.mem_of_getElem? (i := 389) (by decide +kernel)⟩
theorem lw_p14 : lw_okq (⟨"AxleKeeper$Line", "judgeSweep", "(I)V"⟩, 15) := ⟨⟨by decide +kernel, by decide +kernel⟩, List.mem_of_getElem? (i := 20) (by decide +kernel), List.mem_of_getElem? (i := 393) (by decide +kernel), List.mem_of_getElem? (i := 394) (by decide +kernel)⟩
theorem lw_p15 : lw_okq (⟨"AxleKeeper$Line", "judgeJoint", "(III)V"⟩, 15) := ⟨⟨by decide +kernel, by decide +kernel⟩, List.mem_of_getElem? (i := 20) (by decide +kernel), List.mem_of_getElem? (i := 398) (by decide +kernel), List.mem_of_getElem? (i := 399) (by decide +kernel)⟩
def lw_privs_1 : List (MethodName × Nat) := [(⟨"AxleKeeper$Line", "empty", "()I"⟩, 15), (⟨"AxleKeeper$Line", "explains", "(II)Z"⟩, 15), (⟨"AxleKeeper$Line", "rightOf", "(I)I"⟩, 15), (⟨"AxleKeeper$Line", "leftOf", "(I)I"⟩, 15), (⟨"AxleKeeper$Line", "hasBadHead", "(I)Z"⟩, 15), (⟨"AxleKeeper$Line", "isBad", "(I)Z"⟩, 15), (⟨"AxleKeeper$Line", "rightHead", "(I)I"⟩, 15), (⟨"AxleKeeper$Line", "countWheel", "(I)I"⟩, 15), (⟨"AxleKeeper", "refusalToMove", "(III)I"⟩, 6), (⟨"AxleKeeper$Line", "from", "(II)I"⟩, 15), (⟨"AxleKeeper$Line", "hear", "(I)V"⟩, 15), (⟨"AxleKeeper$Line", "receive", "(I)V"⟩, 15), (⟨"AxleKeeper$Line", "addToSum", "(II)V"⟩, 15), (⟨"AxleKeeper$Line", "judge", "(I)V"⟩, 15), (⟨"AxleKeeper$Line", "judgeSweep", "(I)V"⟩, 15), (⟨"AxleKeeper$Line", "judgeJoint", "(III)V"⟩, 15)]
theorem lw_r1 : ∀ q ∈ lw_privs_1, lw_okq q := List.forall_mem_cons.mpr ⟨lw_p0, List.forall_mem_cons.mpr ⟨lw_p1, List.forall_mem_cons.mpr ⟨lw_p2, List.forall_mem_cons.mpr ⟨lw_p3, List.forall_mem_cons.mpr ⟨lw_p4, List.forall_mem_cons.mpr ⟨lw_p5, List.forall_mem_cons.mpr ⟨lw_p6, List.forall_mem_cons.mpr ⟨lw_p7, List.forall_mem_cons.mpr ⟨lw_p8, List.forall_mem_cons.mpr ⟨lw_p9, List.forall_mem_cons.mpr ⟨lw_p10, List.forall_mem_cons.mpr ⟨lw_p11, List.forall_mem_cons.mpr ⟨lw_p12, List.forall_mem_cons.mpr ⟨lw_p13, List.forall_mem_cons.mpr ⟨lw_p14, List.forall_mem_cons.mpr ⟨lw_p15, fun _ h => absurd h List.not_mem_nil⟩⟩⟩⟩⟩⟩⟩⟩⟩⟩⟩⟩⟩⟩⟩⟩
theorem lw_p16 : lw_okq (⟨"AxleKeeper$Line", "canHeal", "(III)Z"⟩, 15) := ⟨⟨by decide +kernel, by decide +kernel⟩, List.mem_of_getElem? (i := 20) (by decide +kernel), List.mem_of_getElem? (i := 403) (by decide +kernel), List.mem_of_getElem? (i := 404) (by decide +kernel)⟩
theorem lw_p17 : lw_okq (⟨"AxleKeeper$Line", "heal", "(III)V"⟩, 15) := ⟨⟨by decide +kernel, by decide +kernel⟩, List.mem_of_getElem? (i := 20) (by decide +kernel), List.mem_of_getElem? (i := 407) (by decide +kernel), List.mem_of_getElem? (i := 408) (by decide +kernel)⟩
theorem lw_p18 : lw_okq (⟨"AxleKeeper", "driftOnce", "()V"⟩, 6) := ⟨⟨by decide +kernel, by decide +kernel⟩, List.mem_of_getElem? (i := 12) (by decide +kernel), List.mem_of_getElem? (i := 431) (by decide +kernel), List.mem_of_getElem? (i := 432) (by decide +kernel)⟩
theorem lw_p19 : lw_okq (⟨"AxleKeeperModel", "heads", "()I"⟩, 6) := ⟨⟨by decide +kernel, by decide +kernel⟩, List.mem_of_getElem? (i := 502) (by decide +kernel), List.mem_of_getElem? (i := 531) (by decide +kernel), List.mem_of_getElem? (i := 532) (by decide +kernel)⟩
theorem lw_p20 : lw_okq (⟨"AxleKeeperModel", "called", "(II)I"⟩, 6) := ⟨⟨by decide +kernel, by decide +kernel⟩, List.mem_of_getElem? (i := 502) (by decide +kernel), List.mem_of_getElem? (i := 535) (by decide +kernel), List.mem_of_getElem? (i := 536) (by decide +kernel)⟩
theorem lw_p21 : lw_okq (⟨"AxleKeeperModel", "setOf", "(I)I"⟩, 6) := ⟨⟨by decide +kernel, by decide +kernel⟩, List.mem_of_getElem? (i := 502) (by decide +kernel), List.mem_of_getElem? (i := 539) (by decide +kernel), List.mem_of_getElem? (i := 540) (by decide +kernel)⟩
theorem lw_p22 : lw_okq (⟨"AxleKeeperModel", "headSet", "(Z)I"⟩, 6) := ⟨⟨by decide +kernel, by decide +kernel⟩, List.mem_of_getElem? (i := 502) (by decide +kernel), List.mem_of_getElem? (i := 543) (by decide +kernel), List.mem_of_getElem? (i := 544) (by decide +kernel)⟩
theorem lw_p23 : lw_okq (⟨"AxleKeeperModel", "byHowMuch", "(I)I"⟩, 6) := ⟨⟨by decide +kernel, by decide +kernel⟩, List.mem_of_getElem? (i := 502) (by decide +kernel), List.mem_of_getElem? (i := 547) (by decide +kernel), List.mem_of_getElem? (i := 548) (by decide +kernel)⟩
theorem lw_p24 : lw_okq (⟨"AxleKeeperModel", "leavesNone", "(II)Z"⟩, 6) := ⟨⟨by decide +kernel, by decide +kernel⟩, List.mem_of_getElem? (i := 502) (by decide +kernel), List.mem_of_getElem? (i := 551) (by decide +kernel), List.mem_of_getElem? (i := 552) (by decide +kernel)⟩
theorem lw_p25 : lw_okq (⟨"AxleKeeperModel", "rightOf", "(I)I"⟩, 6) := ⟨⟨by decide +kernel, by decide +kernel⟩, List.mem_of_getElem? (i := 502) (by decide +kernel), List.mem_of_getElem? (i := 555) (by decide +kernel), List.mem_of_getElem? (i := 556) (by decide +kernel)⟩
theorem lw_p26 : lw_okq (⟨"AxleKeeperModel", "leftOf", "(I)I"⟩, 6) := ⟨⟨by decide +kernel, by decide +kernel⟩, List.mem_of_getElem? (i := 502) (by decide +kernel), List.mem_of_getElem? (i := 559) (by decide +kernel), List.mem_of_getElem? (i := 560) (by decide +kernel)⟩
theorem lw_p27 : lw_okq (⟨"AxleKeeperModel", "allOf", "(I)I"⟩, 6) := ⟨⟨by decide +kernel, by decide +kernel⟩, List.mem_of_getElem? (i := 502) (by decide +kernel), List.mem_of_getElem? (i := 563) (by decide +kernel), List.mem_of_getElem? (i := 564) (by decide +kernel)⟩
theorem lw_p28 : lw_okq (⟨"AxleKeeperModel", "wrongEntry", "()I"⟩, 6) := ⟨⟨by decide +kernel, by decide +kernel⟩, List.mem_of_getElem? (i := 502) (by decide +kernel), List.mem_of_getElem? (i := 567) (by decide +kernel), List.mem_of_getElem? (i := 568) (by decide +kernel)⟩
theorem lw_p29 : lw_okq (⟨"AxleKeeperModel", "isSection", "(I)Z"⟩, 6) := ⟨⟨by decide +kernel, by decide +kernel⟩, List.mem_of_getElem? (i := 502) (by decide +kernel), List.mem_of_getElem? (i := 571) (by decide +kernel), List.mem_of_getElem? (i := 572) (by decide +kernel)⟩
theorem lw_p30 : lw_okq (⟨"AxleKeeperModel", "isTrouble", "(II)Z"⟩, 6) := ⟨⟨by decide +kernel, by decide +kernel⟩, List.mem_of_getElem? (i := 502) (by decide +kernel), List.mem_of_getElem? (i := 584) (by decide +kernel), List.mem_of_getElem? (i := 585) (by decide +kernel)⟩
theorem lw_p31 : lw_okq (⟨"AxleKeeperModel", "hasBad", "(II)Z"⟩, 6) := ⟨⟨by decide +kernel, by decide +kernel⟩, List.mem_of_getElem? (i := 502) (by decide +kernel), List.mem_of_getElem? (i := 588) (by decide +kernel), List.mem_of_getElem? (i := 589) (by decide +kernel)⟩
def lw_privs_2 : List (MethodName × Nat) := [(⟨"AxleKeeper$Line", "canHeal", "(III)Z"⟩, 15), (⟨"AxleKeeper$Line", "heal", "(III)V"⟩, 15), (⟨"AxleKeeper", "driftOnce", "()V"⟩, 6), (⟨"AxleKeeperModel", "heads", "()I"⟩, 6), (⟨"AxleKeeperModel", "called", "(II)I"⟩, 6), (⟨"AxleKeeperModel", "setOf", "(I)I"⟩, 6), (⟨"AxleKeeperModel", "headSet", "(Z)I"⟩, 6), (⟨"AxleKeeperModel", "byHowMuch", "(I)I"⟩, 6), (⟨"AxleKeeperModel", "leavesNone", "(II)Z"⟩, 6), (⟨"AxleKeeperModel", "rightOf", "(I)I"⟩, 6), (⟨"AxleKeeperModel", "leftOf", "(I)I"⟩, 6), (⟨"AxleKeeperModel", "allOf", "(I)I"⟩, 6), (⟨"AxleKeeperModel", "wrongEntry", "()I"⟩, 6), (⟨"AxleKeeperModel", "isSection", "(I)Z"⟩, 6), (⟨"AxleKeeperModel", "isTrouble", "(II)Z"⟩, 6), (⟨"AxleKeeperModel", "hasBad", "(II)Z"⟩, 6)]
theorem lw_r2 : ∀ q ∈ lw_privs_2, lw_okq q := List.forall_mem_cons.mpr ⟨lw_p16, List.forall_mem_cons.mpr ⟨lw_p17, List.forall_mem_cons.mpr ⟨lw_p18, List.forall_mem_cons.mpr ⟨lw_p19, List.forall_mem_cons.mpr ⟨lw_p20, List.forall_mem_cons.mpr ⟨lw_p21, List.forall_mem_cons.mpr ⟨lw_p22, List.forall_mem_cons.mpr ⟨lw_p23, List.forall_mem_cons.mpr ⟨lw_p24, List.forall_mem_cons.mpr ⟨lw_p25, List.forall_mem_cons.mpr ⟨lw_p26, List.forall_mem_cons.mpr ⟨lw_p27, List.forall_mem_cons.mpr ⟨lw_p28, List.forall_mem_cons.mpr ⟨lw_p29, List.forall_mem_cons.mpr ⟨lw_p30, List.forall_mem_cons.mpr ⟨lw_p31, fun _ h => absurd h List.not_mem_nil⟩⟩⟩⟩⟩⟩⟩⟩⟩⟩⟩⟩⟩⟩⟩⟩
theorem lw_p32 : lw_okq (⟨"AxleKeeperModel", "isBad", "(II)Z"⟩, 6) := ⟨⟨by decide +kernel, by decide +kernel⟩, List.mem_of_getElem? (i := 502) (by decide +kernel), List.mem_of_getElem? (i := 592) (by decide +kernel), List.mem_of_getElem? (i := 593) (by decide +kernel)⟩
theorem lw_p33 : lw_okq (⟨"AxleKeeperModel", "rightHead", "(I)I"⟩, 6) := ⟨⟨by decide +kernel, by decide +kernel⟩, List.mem_of_getElem? (i := 502) (by decide +kernel), List.mem_of_getElem? (i := 596) (by decide +kernel), List.mem_of_getElem? (i := 597) (by decide +kernel)⟩
theorem lw_p34 : lw_okq (⟨"AxleKeeperModel", "leftTelegrams", "(I)I"⟩, 6) := ⟨⟨by decide +kernel, by decide +kernel⟩, List.mem_of_getElem? (i := 502) (by decide +kernel), List.mem_of_getElem? (i := 600) (by decide +kernel), List.mem_of_getElem? (i := 601) (by decide +kernel)⟩
theorem lw_p35 : lw_okq (⟨"AxleKeeperModel", "run", "(I)I"⟩, 6) := ⟨⟨by decide +kernel, by decide +kernel⟩, List.mem_of_getElem? (i := 502) (by decide +kernel), List.mem_of_getElem? (i := 604) (by decide +kernel), List.mem_of_getElem? (i := 605) (by decide +kernel)⟩
theorem lw_p36 : lw_okq (⟨"AxleKeeperModel", "isHead", "(I)Z"⟩, 6) := ⟨⟨by decide +kernel, by decide +kernel⟩, List.mem_of_getElem? (i := 502) (by decide +kernel), List.mem_of_getElem? (i := 612) (by decide +kernel), List.mem_of_getElem? (i := 613) (by decide +kernel)⟩
theorem lw_p37 : lw_okq (⟨"AxleKeeperModel", "joint", "(I)I"⟩, 6) := ⟨⟨by decide +kernel, by decide +kernel⟩, List.mem_of_getElem? (i := 502) (by decide +kernel), List.mem_of_getElem? (i := 616) (by decide +kernel), List.mem_of_getElem? (i := 617) (by decide +kernel)⟩
theorem lw_p38 : lw_okq (⟨"AxleKeeperModel", "isJoint", "(I)Z"⟩, 6) := ⟨⟨by decide +kernel, by decide +kernel⟩, List.mem_of_getElem? (i := 502) (by decide +kernel), List.mem_of_getElem? (i := 620) (by decide +kernel), List.mem_of_getElem? (i := 621) (by decide +kernel)⟩
theorem lw_p39 : lw_okq (⟨"AxleKeeperModel", "remember", "()V"⟩, 6) := ⟨⟨by decide +kernel, by decide +kernel⟩, List.mem_of_getElem? (i := 502) (by decide +kernel), List.mem_of_getElem? (i := 628) (by decide +kernel), List.mem_of_getElem? (i := 629) (by decide +kernel)⟩
theorem lw_p40 : lw_okq (⟨"AxleKeeperModel", "copyRow", "(II)V"⟩, 6) := ⟨⟨by decide +kernel, by decide +kernel⟩, List.mem_of_getElem? (i := 502) (by decide +kernel), List.mem_of_getElem? (i := 632) (by decide +kernel), List.mem_of_getElem? (i := 633) (by decide +kernel)⟩
theorem lw_p41 : lw_okq (⟨"AxleKeeperModel", "feelOne", "(II)I"⟩, 6) := ⟨⟨by decide +kernel, by decide +kernel⟩, List.mem_of_getElem? (i := 502) (by decide +kernel), List.mem_of_getElem? (i := 641) (by decide +kernel), List.mem_of_getElem? (i := 642) (by decide +kernel)⟩
theorem lw_p42 : lw_okq (⟨"AxleKeeperModel", "goes", "(IIIZ)I"⟩, 6) := ⟨⟨by decide +kernel, by decide +kernel⟩, List.mem_of_getElem? (i := 502) (by decide +kernel), List.mem_of_getElem? (i := 652) (by decide +kernel), List.mem_of_getElem? (i := 653) (by decide +kernel)⟩
theorem lw_p43 : lw_okq (⟨"AxleKeeperModel", "canGo", "(III)Z"⟩, 6) := ⟨⟨by decide +kernel, by decide +kernel⟩, List.mem_of_getElem? (i := 502) (by decide +kernel), List.mem_of_getElem? (i := 656) (by decide +kernel), List.mem_of_getElem? (i := 657) (by decide +kernel)⟩
theorem lw_p44 : lw_okq (⟨"AxleKeeperModel", "feels", "(I)Z"⟩, 6) := ⟨⟨by decide +kernel, by decide +kernel⟩, List.mem_of_getElem? (i := 502) (by decide +kernel), List.mem_of_getElem? (i := 660) (by decide +kernel), List.mem_of_getElem? (i := 661) (by decide +kernel)⟩
theorem lw_p45 : lw_okq (⟨"AxleKeeperModel", "goOver", "(IIIZ)I"⟩, 6) := ⟨⟨by decide +kernel, by decide +kernel⟩, List.mem_of_getElem? (i := 502) (by decide +kernel), List.mem_of_getElem? (i := 664) (by decide +kernel), List.mem_of_getElem? (i := 665) (by decide +kernel)⟩
theorem lw_p46 : lw_okq (⟨"AxleKeeperModel", "isSet", "(I)Z"⟩, 6) := ⟨⟨by decide +kernel, by decide +kernel⟩, List.mem_of_getElem? (i := 502) (by decide +kernel), List.mem_of_getElem? (i := 676) (by decide +kernel), List.mem_of_getElem? (i := 677) (by decide +kernel)⟩
theorem lw_p47 : lw_okq (⟨"AxleKeeperModel", "tickIn", "(II)V"⟩, 6) := ⟨⟨by decide +kernel, by decide +kernel⟩, List.mem_of_getElem? (i := 502) (by decide +kernel), List.mem_of_getElem? (i := 680) (by decide +kernel), List.mem_of_getElem? (i := 681) (by decide +kernel)⟩
def lw_privs_3 : List (MethodName × Nat) := [(⟨"AxleKeeperModel", "isBad", "(II)Z"⟩, 6), (⟨"AxleKeeperModel", "rightHead", "(I)I"⟩, 6), (⟨"AxleKeeperModel", "leftTelegrams", "(I)I"⟩, 6), (⟨"AxleKeeperModel", "run", "(I)I"⟩, 6), (⟨"AxleKeeperModel", "isHead", "(I)Z"⟩, 6), (⟨"AxleKeeperModel", "joint", "(I)I"⟩, 6), (⟨"AxleKeeperModel", "isJoint", "(I)Z"⟩, 6), (⟨"AxleKeeperModel", "remember", "()V"⟩, 6), (⟨"AxleKeeperModel", "copyRow", "(II)V"⟩, 6), (⟨"AxleKeeperModel", "feelOne", "(II)I"⟩, 6), (⟨"AxleKeeperModel", "goes", "(IIIZ)I"⟩, 6), (⟨"AxleKeeperModel", "canGo", "(III)Z"⟩, 6), (⟨"AxleKeeperModel", "feels", "(I)Z"⟩, 6), (⟨"AxleKeeperModel", "goOver", "(IIIZ)I"⟩, 6), (⟨"AxleKeeperModel", "isSet", "(I)Z"⟩, 6), (⟨"AxleKeeperModel", "tickIn", "(II)V"⟩, 6)]
theorem lw_r3 : ∀ q ∈ lw_privs_3, lw_okq q := List.forall_mem_cons.mpr ⟨lw_p32, List.forall_mem_cons.mpr ⟨lw_p33, List.forall_mem_cons.mpr ⟨lw_p34, List.forall_mem_cons.mpr ⟨lw_p35, List.forall_mem_cons.mpr ⟨lw_p36, List.forall_mem_cons.mpr ⟨lw_p37, List.forall_mem_cons.mpr ⟨lw_p38, List.forall_mem_cons.mpr ⟨lw_p39, List.forall_mem_cons.mpr ⟨lw_p40, List.forall_mem_cons.mpr ⟨lw_p41, List.forall_mem_cons.mpr ⟨lw_p42, List.forall_mem_cons.mpr ⟨lw_p43, List.forall_mem_cons.mpr ⟨lw_p44, List.forall_mem_cons.mpr ⟨lw_p45, List.forall_mem_cons.mpr ⟨lw_p46, List.forall_mem_cons.mpr ⟨lw_p47, fun _ h => absurd h List.not_mem_nil⟩⟩⟩⟩⟩⟩⟩⟩⟩⟩⟩⟩⟩⟩⟩⟩
theorem lw_p48 : lw_okq (⟨"AxleKeeperModel", "hear", "(IIZ)V"⟩, 6) := ⟨⟨by decide +kernel, by decide +kernel⟩, List.mem_of_getElem? (i := 502) (by decide +kernel), List.mem_of_getElem? (i := 687) (by decide +kernel), List.mem_of_getElem? (i := 688) (by decide +kernel)⟩
theorem lw_p49 : lw_okq (⟨"AxleKeeperModel", "judgeOne", "(II)V"⟩, 6) := ⟨⟨by decide +kernel, by decide +kernel⟩, List.mem_of_getElem? (i := 502) (by decide +kernel), List.mem_of_getElem? (i := 691) (by decide +kernel), List.mem_of_getElem? (i := 692) (by decide +kernel)⟩
theorem lw_p50 : lw_okq (⟨"AxleKeeperModel", "heal", "(II)V"⟩, 6) := ⟨⟨by decide +kernel, by decide +kernel⟩, List.mem_of_getElem? (i := 502) (by decide +kernel), List.mem_of_getElem? (i := 695) (by decide +kernel), List.mem_of_getElem? (i := 696) (by decide +kernel)⟩
theorem lw_p51 : lw_okq (⟨"AxleKeeperModel", "sweepOver", "(II)V"⟩, 6) := ⟨⟨by decide +kernel, by decide +kernel⟩, List.mem_of_getElem? (i := 502) (by decide +kernel), List.mem_of_getElem? (i := 699) (by decide +kernel), List.mem_of_getElem? (i := 700) (by decide +kernel)⟩
theorem lw_p52 : lw_okq (⟨"AxleKeeperModel", "time", "()V"⟩, 6) := ⟨⟨by decide +kernel, by decide +kernel⟩, List.mem_of_getElem? (i := 502) (by decide +kernel), List.mem_of_getElem? (i := 715) (by decide +kernel), List.mem_of_getElem? (i := 716) (by decide +kernel)⟩
theorem lw_p53 : lw_okq (⟨"AxleKeeperModel", "draw", "(I)I"⟩, 6) := ⟨⟨by decide +kernel, by decide +kernel⟩, List.mem_of_getElem? (i := 502) (by decide +kernel), List.mem_of_getElem? (i := 719) (by decide +kernel), List.mem_of_getElem? (i := 720) (by decide +kernel)⟩
def lw_privs_4 : List (MethodName × Nat) := [(⟨"AxleKeeperModel", "hear", "(IIZ)V"⟩, 6), (⟨"AxleKeeperModel", "judgeOne", "(II)V"⟩, 6), (⟨"AxleKeeperModel", "heal", "(II)V"⟩, 6), (⟨"AxleKeeperModel", "sweepOver", "(II)V"⟩, 6), (⟨"AxleKeeperModel", "time", "()V"⟩, 6), (⟨"AxleKeeperModel", "draw", "(I)I"⟩, 6)]
theorem lw_r4 : ∀ q ∈ lw_privs_4, lw_okq q := List.forall_mem_cons.mpr ⟨lw_p48, List.forall_mem_cons.mpr ⟨lw_p49, List.forall_mem_cons.mpr ⟨lw_p50, List.forall_mem_cons.mpr ⟨lw_p51, List.forall_mem_cons.mpr ⟨lw_p52, List.forall_mem_cons.mpr ⟨lw_p53, fun _ h => absurd h List.not_mem_nil⟩⟩⟩⟩⟩⟩
def lw_privs : List (MethodName × Nat) := lw_privs_1 ++ (lw_privs_2 ++ (lw_privs_3 ++ (lw_privs_4)))
def lw_tbl : List Cond := k2_sels lw_privs ++ tables_1
theorem lw_privs_ok : ∀ q ∈ lw_privs, lw_okq q := by
  show ∀ q ∈ lw_privs_1 ++ (lw_privs_2 ++ (lw_privs_3 ++ (lw_privs_4))), lw_okq q
  exact List.forall_mem_append.mpr ⟨lw_r1, List.forall_mem_append.mpr ⟨lw_r2, List.forall_mem_append.mpr ⟨lw_r3, lw_r4⟩⟩⟩
end
section
/-! ===== BEGIN words of one list among another's, by their places ===== -/
theorem goodIn_r {big : List Cond} (ws : List Cond) (ps : List Nat) (hp : ws = ps.filterMap (fun i => big[i]?)) (h : ws.all goodWord = true) : GoodIn big ws := by
  intro w hw
  have h1 := List.all_eq_true.mp h w hw
  rw [hp] at hw
  obtain ⟨i, -, hi⟩ := List.mem_filterMap.mp hw
  have hm : w ∈ big := by first | exact List.mem_of_getElem? hi | exact List.getElem?_mem hi
  exact ⟨hm, good_of_word h1⟩
theorem goodIn_app {big a b : List Cond} (ha : GoodIn big a) (hb : GoodIn big b) : GoodIn big (a ++ b) := fun w h => (List.mem_append.mp h).elim (ha w) (hb w)
theorem goodIn_ca {big a b : List Cond} {c : Cond} (ha : GoodIn big (c :: a)) (hb : GoodIn big b) : GoodIn big (c :: (a ++ b)) := fun w h => (List.mem_cons.mp h).elim (fun e => ha w (List.mem_cons.mpr (Or.inl e))) (fun h => (List.mem_append.mp h).elim (fun h => ha w (List.mem_cons.mpr (Or.inr h))) (hb w))
theorem goodIn_sub {big ws : List Cond} (hm : ∀ w ∈ ws, w ∈ big) (h : ws.all goodWord = true) : GoodIn big ws := fun w hw => ⟨hm w hw, good_of_word (List.all_eq_true.mp h w hw)⟩
/-! ===== END ===== -/

/-! ===== BEGIN printed: names, fields, word lists, decode rows ===== -/
def RX0 : String := "AxleKeeper$Book"
def TX0 : u_T := fun k => match k with
  | 0 => ("AxleKeeper$Book", "sectionOf", "[I", true)
  | 1 => ("AxleKeeper$Book", "callOf", "[I", true)
  | _ => ("AxleKeeper$Book", "size", "I", false)
def tyX0 : Nat → FieldType := fun k => match k with
  | 0 => .array .int
  | 1 => .array .int
  | _ => .int
abbrev wsX00 : List Cond := u_ws RX0 TX0 3
theorem nmX0 : ∀ a, a < 3 → ∀ b, b < 3 → a ≠ b → (TX0 a).2.1 ≠ (TX0 b).2.1 := by decide +kernel
theorem tyX0_ok : ∀ k, k < 3 → parseFieldDescriptor (TX0 k).2.2.1 = some (tyX0 k) := by decide +kernel
abbrev cX0_init : ByteArray := prog_2_method_1_code
def yX0_init : MethodName := ⟨RX0, "<init>", "()V"⟩
abbrev cX0_add : ByteArray := prog_2_method_2_code
def yX0_add : MethodName := ⟨RX0, "add", "(II)V"⟩
abbrev cX0_firstWrong : ByteArray := prog_2_method_3_code
def yX0_firstWrong : MethodName := ⟨RX0, "firstWrong", "(LAxleKeeper$Line;)I"⟩
def RX1 : String := "AxleKeeper$Draws"
def TX1 : u_T := fun k => match k with
  | _ => ("AxleKeeper$Draws", "latest", "I", false)
def tyX1 : Nat → FieldType := fun k => match k with
  | _ => .int
abbrev wsX10 : List Cond := u_ws RX1 TX1 1
theorem nmX1 : ∀ a, a < 1 → ∀ b, b < 1 → a ≠ b → (TX1 a).2.1 ≠ (TX1 b).2.1 := by decide +kernel
theorem tyX1_ok : ∀ k, k < 1 → parseFieldDescriptor (TX1 k).2.2.1 = some (tyX1 k) := by decide +kernel
abbrev cX1_init : ByteArray := prog_3_method_1_code
def yX1_init : MethodName := ⟨RX1, "<init>", "()V"⟩
abbrev cX1_next : ByteArray := prog_3_method_2_code
def yX1_next : MethodName := ⟨RX1, "next", "(I)I"⟩
def RX2 : String := "AxleKeeper$Images"
def TX2 : u_T := fun k => match k with
  | 0 => ("AxleKeeper$Images", "rows", "[[I", true)
  | 1 => ("AxleKeeper$Images", "seeds", "[I", true)
  | _ => ("AxleKeeper$Images", "kept", "[Z", true)
def tyX2 : Nat → FieldType := fun k => match k with
  | 0 => .array (.array .int)
  | 1 => .array .int
  | _ => .array .boolean
abbrev wsX20 : List Cond := u_ws RX2 TX2 3
theorem nmX2 : ∀ a, a < 3 → ∀ b, b < 3 → a ≠ b → (TX2 a).2.1 ≠ (TX2 b).2.1 := by decide +kernel
theorem tyX2_ok : ∀ k, k < 3 → parseFieldDescriptor (TX2 k).2.2.1 = some (tyX2 k) := by decide +kernel
abbrev cX2_init : ByteArray := prog_4_method_1_code
def yX2_init : MethodName := ⟨RX2, "<init>", "()V"⟩
abbrev cX2_hasPlace : ByteArray := prog_4_method_2_code
def yX2_hasPlace : MethodName := ⟨RX2, "hasPlace", "(I)Z"⟩
abbrev cX2_take : ByteArray := prog_4_method_3_code
def yX2_take : MethodName := ⟨RX2, "take", "(ILAxleKeeper$Line;LAxleKeeper$Draws;)V"⟩
abbrev cX2_giveBack : ByteArray := prog_4_method_4_code
def yX2_giveBack : MethodName := ⟨RX2, "giveBack", "(ILAxleKeeper$Line;LAxleKeeper$Draws;)V"⟩
def RX3 : String := "AxleKeeper$Line"
def TX3 : u_T := fun k => match k with
  | 0 => ("AxleKeeper$Line", "sections", "I", false)
  | 1 => ("AxleKeeper$Line", "ring", "Z", false)
  | 2 => ("AxleKeeper$Line", "ticks", "I", false)
  | 3 => ("AxleKeeper$Line", "state", "[I", true)
  | 4 => ("AxleKeeper$Line", "wheel", "[I", true)
  | 5 => ("AxleKeeper$Line", "count", "[I", true)
  | 6 => ("AxleKeeper$Line", "faulty", "[I", true)
  | 7 => ("AxleKeeper$Line", "heard", "[I", true)
  | 8 => ("AxleKeeper$Line", "heardFaulty", "[I", true)
  | 9 => ("AxleKeeper$Line", "age", "[I", true)
  | 10 => ("AxleKeeper$Line", "sweptOver", "[I", true)
  | 11 => ("AxleKeeper$Line", "sum", "[I", true)
  | 12 => ("AxleKeeper$Line", "call", "[I", true)
  | 13 => ("AxleKeeper$Line", "entered", "[I", true)
  | _ => ("AxleKeeper$Line", "axles", "[I", true)
def tyX3 : Nat → FieldType := fun k => match k with
  | 0 => .int
  | 1 => .boolean
  | 2 => .int
  | 3 => .array .int
  | 4 => .array .int
  | 5 => .array .int
  | 6 => .array .int
  | 7 => .array .int
  | 8 => .array .int
  | 9 => .array .int
  | 10 => .array .int
  | 11 => .array .int
  | 12 => .array .int
  | 13 => .array .int
  | _ => .array .int
abbrev wsX30 : List Cond := u_ws RX3 TX3 15
theorem nmX3 : ∀ a, a < 15 → ∀ b, b < 15 → a ≠ b → (TX3 a).2.1 ≠ (TX3 b).2.1 := by decide +kernel
theorem tyX3_ok : ∀ k, k < 15 → parseFieldDescriptor (TX3 k).2.2.1 = some (tyX3 k) := by decide +kernel
abbrev cX3_init : ByteArray := prog_5_method_1_code
def yX3_init : MethodName := ⟨RX3, "<init>", "()V"⟩
abbrev cX3_begin : ByteArray := prog_5_method_2_code
def yX3_begin : MethodName := ⟨RX3, "begin", "(IZ)V"⟩
abbrev cX3_heads : ByteArray := prog_5_method_3_code
def yX3_heads : MethodName := ⟨RX3, "heads", "()I"⟩
abbrev cX3_hasSection : ByteArray := prog_5_method_4_code
def yX3_hasSection : MethodName := ⟨RX3, "hasSection", "(I)Z"⟩
abbrev cX3_hasHead : ByteArray := prog_5_method_5_code
def yX3_hasHead : MethodName := ⟨RX3, "hasHead", "(I)Z"⟩
abbrev cX3_hasHeads : ByteArray := prog_5_method_6_code
def yX3_hasHeads : MethodName := ⟨RX3, "hasHeads", "(I)Z"⟩
abbrev cX3_leftOf : ByteArray := prog_5_method_7_code
def yX3_leftOf : MethodName := ⟨RX3, "leftOf", "(I)I"⟩
abbrev cX3_rightOf : ByteArray := prog_5_method_8_code
def yX3_rightOf : MethodName := ⟨RX3, "rightOf", "(I)I"⟩
abbrev cX3_rightHead : ByteArray := prog_5_method_9_code
def yX3_rightHead : MethodName := ⟨RX3, "rightHead", "(I)I"⟩
abbrev cX3_joins : ByteArray := prog_5_method_10_code
def yX3_joins : MethodName := ⟨RX3, "joins", "(I)Z"⟩
abbrev cX3_stepTo : ByteArray := prog_5_method_11_code
def yX3_stepTo : MethodName := ⟨RX3, "stepTo", "(II)I"⟩
abbrev cX3_countWheel : ByteArray := prog_5_method_12_code
def yX3_countWheel : MethodName := ⟨RX3, "countWheel", "(I)I"⟩
abbrev cX3_feelsAll : ByteArray := prog_5_method_13_code
def yX3_feelsAll : MethodName := ⟨RX3, "feelsAll", "(I)Z"⟩
abbrev cX3_from : ByteArray := prog_5_method_14_code
def yX3_from : MethodName := ⟨RX3, "from", "(II)I"⟩
abbrev cX3_canCarry : ByteArray := prog_5_method_15_code
def yX3_canCarry : MethodName := ⟨RX3, "canCarry", "(III)Z"⟩
abbrev cX3_carry : ByteArray := prog_5_method_16_code
def yX3_carry : MethodName := ⟨RX3, "carry", "(IIIZ)I"⟩
abbrev cX3_mend : ByteArray := prog_5_method_17_code
def yX3_mend : MethodName := ⟨RX3, "mend", "(I)V"⟩
abbrev cX3_pass : ByteArray := prog_5_method_18_code
def yX3_pass : MethodName := ⟨RX3, "pass", "(I)V"⟩
abbrev cX3_hear : ByteArray := prog_5_method_19_code
def yX3_hear : MethodName := ⟨RX3, "hear", "(I)V"⟩
abbrev cX3_receive : ByteArray := prog_5_method_20_code
def yX3_receive : MethodName := ⟨RX3, "receive", "(I)V"⟩
abbrev cX3_addToSum : ByteArray := prog_5_method_21_code
def yX3_addToSum : MethodName := ⟨RX3, "addToSum", "(II)V"⟩
abbrev cX3_judge : ByteArray := prog_5_method_22_code
def yX3_judge : MethodName := ⟨RX3, "judge", "(I)V"⟩
abbrev cX3_judgeSweep : ByteArray := prog_5_method_23_code
def yX3_judgeSweep : MethodName := ⟨RX3, "judgeSweep", "(I)V"⟩
abbrev cX3_hasTrouble : ByteArray := prog_5_method_24_code
def yX3_hasTrouble : MethodName := ⟨RX3, "hasTrouble", "(I)Z"⟩
abbrev cX3_hasBadHead : ByteArray := prog_5_method_25_code
def yX3_hasBadHead : MethodName := ⟨RX3, "hasBadHead", "(I)Z"⟩
abbrev cX3_isBad : ByteArray := prog_5_method_26_code
def yX3_isBad : MethodName := ⟨RX3, "isBad", "(I)Z"⟩
abbrev cX3_judgeJoint : ByteArray := prog_5_method_27_code
def yX3_judgeJoint : MethodName := ⟨RX3, "judgeJoint", "(III)V"⟩
abbrev cX3_canHeal : ByteArray := prog_5_method_28_code
def yX3_canHeal : MethodName := ⟨RX3, "canHeal", "(III)Z"⟩
abbrev cX3_heal : ByteArray := prog_5_method_29_code
def yX3_heal : MethodName := ⟨RX3, "heal", "(III)V"⟩
abbrev cX3_joint : ByteArray := prog_5_method_30_code
def yX3_joint : MethodName := ⟨RX3, "joint", "(I)I"⟩
abbrev cX3_awaitSweep : ByteArray := prog_5_method_31_code
def yX3_awaitSweep : MethodName := ⟨RX3, "awaitSweep", "(I)V"⟩
abbrev cX3_called : ByteArray := prog_5_method_32_code
def yX3_called : MethodName := ⟨RX3, "called", "(I)I"⟩
abbrev cX3_wronglyClear : ByteArray := prog_5_method_33_code
def yX3_wronglyClear : MethodName := ⟨RX3, "wronglyClear", "()I"⟩
abbrev cX3_idle : ByteArray := prog_5_method_34_code
def yX3_idle : MethodName := ⟨RX3, "idle", "()I"⟩
abbrev cX3_empty : ByteArray := prog_5_method_35_code
def yX3_empty : MethodName := ⟨RX3, "empty", "()I"⟩
abbrev cX3_faultyHeads : ByteArray := prog_5_method_36_code
def yX3_faultyHeads : MethodName := ⟨RX3, "faultyHeads", "()I"⟩
abbrev cX3_axlesInAll : ByteArray := prog_5_method_37_code
def yX3_axlesInAll : MethodName := ⟨RX3, "axlesInAll", "()I"⟩
abbrev cX3_sumOfAll : ByteArray := prog_5_method_38_code
def yX3_sumOfAll : MethodName := ⟨RX3, "sumOfAll", "()I"⟩
abbrev cX3_suspects : ByteArray := prog_5_method_39_code
def yX3_suspects : MethodName := ⟨RX3, "suspects", "()I"⟩
abbrev cX3_miscount : ByteArray := prog_5_method_40_code
def yX3_miscount : MethodName := ⟨RX3, "miscount", "(I)I"⟩
abbrev cX3_explains : ByteArray := prog_5_method_41_code
def yX3_explains : MethodName := ⟨RX3, "explains", "(II)Z"⟩
abbrev cX3_lossesLeft : ByteArray := prog_5_method_42_code
def yX3_lossesLeft : MethodName := ⟨RX3, "lossesLeft", "(I)I"⟩
abbrev cX3_clearRun : ByteArray := prog_5_method_43_code
def yX3_clearRun : MethodName := ⟨RX3, "clearRun", "(I)I"⟩
abbrev cX3_save : ByteArray := prog_5_method_44_code
def yX3_save : MethodName := ⟨RX3, "save", "([I)V"⟩
abbrev cX3_put : ByteArray := prog_5_method_45_code
def yX3_put : MethodName := ⟨RX3, "put", "([I[II)I"⟩
abbrev cX3_load : ByteArray := prog_5_method_46_code
def yX3_load : MethodName := ⟨RX3, "load", "([I)V"⟩
abbrev cX3_get : ByteArray := prog_5_method_47_code
def yX3_get : MethodName := ⟨RX3, "get", "([I[II)I"⟩
def RX4 : String := "AxleKeeper$Past"
def TX4 : u_T := fun k => match k with
  | 0 => ("AxleKeeper$Past", "rows", "[[I", true)
  | 1 => ("AxleKeeper$Past", "next", "I", false)
  | _ => ("AxleKeeper$Past", "size", "I", false)
def tyX4 : Nat → FieldType := fun k => match k with
  | 0 => .array (.array .int)
  | 1 => .int
  | _ => .int
abbrev wsX40 : List Cond := u_ws RX4 TX4 3
theorem nmX4 : ∀ a, a < 3 → ∀ b, b < 3 → a ≠ b → (TX4 a).2.1 ≠ (TX4 b).2.1 := by decide +kernel
theorem tyX4_ok : ∀ k, k < 3 → parseFieldDescriptor (TX4 k).2.2.1 = some (tyX4 k) := by decide +kernel
abbrev cX4_init : ByteArray := prog_6_method_1_code
def yX4_init : MethodName := ⟨RX4, "<init>", "()V"⟩
abbrev cX4_add : ByteArray := prog_6_method_2_code
def yX4_add : MethodName := ⟨RX4, "add", "(LAxleKeeper$Line;)V"⟩
abbrev cX4_takeBack : ByteArray := prog_6_method_3_code
def yX4_takeBack : MethodName := ⟨RX4, "takeBack", "(ILAxleKeeper$Line;)V"⟩
def RX5 : String := "AxleKeeper"
def TX5 : u_T := fun k => match k with
  | 0 => ("AxleKeeper", "now", "LAxleKeeper$Line;", true)
  | 1 => ("AxleKeeper", "past", "LAxleKeeper$Past;", true)
  | 2 => ("AxleKeeper", "book", "LAxleKeeper$Book;", true)
  | 3 => ("AxleKeeper", "draws", "LAxleKeeper$Draws;", true)
  | 4 => ("AxleKeeper", "images", "LAxleKeeper$Images;", true)
  | _ => ("AxleKeeper", "asIs", "[I", true)
def tyX5 : Nat → FieldType := fun k => match k with
  | 0 => .object "AxleKeeper$Line"
  | 1 => .object "AxleKeeper$Past"
  | 2 => .object "AxleKeeper$Book"
  | 3 => .object "AxleKeeper$Draws"
  | 4 => .object "AxleKeeper$Images"
  | _ => .array .int
abbrev wsX50 : List Cond := u_ws RX5 TX5 6
theorem nmX5 : ∀ a, a < 6 → ∀ b, b < 6 → a ≠ b → (TX5 a).2.1 ≠ (TX5 b).2.1 := by decide +kernel
theorem tyX5_ok : ∀ k, k < 6 → parseFieldDescriptor (TX5 k).2.2.1 = some (tyX5 k) := by decide +kernel
abbrev cX5_init : ByteArray := prog_1_method_1_code
def yX5_init : MethodName := ⟨RX5, "<init>", "()V"⟩
abbrev cX5_told : ByteArray := prog_1_method_2_code
def yX5_told : MethodName := ⟨RX5, "told", "(I)I"⟩
abbrev cX5_section : ByteArray := prog_1_method_3_code
def yX5_section : MethodName := ⟨RX5, "section", "(II)I"⟩
abbrev cX5_head : ByteArray := prog_1_method_4_code
def yX5_head : MethodName := ⟨RX5, "head", "(II)I"⟩
abbrev cX5_miscountTold : ByteArray := prog_1_method_5_code
def yX5_miscountTold : MethodName := ⟨RX5, "miscountTold", "(I)I"⟩
abbrev cX5_line : ByteArray := prog_1_method_6_code
def yX5_line : MethodName := ⟨RX5, "line", "(IZ)I"⟩
abbrev cX5_feel : ByteArray := prog_1_method_7_code
def yX5_feel : MethodName := ⟨RX5, "feel", "(II)I"⟩
abbrev cX5_go : ByteArray := prog_1_method_8_code
def yX5_go : MethodName := ⟨RX5, "go", "(III)I"⟩
abbrev cX5_miss : ByteArray := prog_1_method_9_code
def yX5_miss : MethodName := ⟨RX5, "miss", "(III)I"⟩
abbrev cX5_refusalToMove : ByteArray := prog_1_method_10_code
def yX5_refusalToMove : MethodName := ⟨RX5, "refusalToMove", "(III)I"⟩
abbrev cX5_tick : ByteArray := prog_1_method_11_code
def yX5_tick : MethodName := ⟨RX5, "tick", "(I)I"⟩
abbrev cX5_reset : ByteArray := prog_1_method_12_code
def yX5_reset : MethodName := ⟨RX5, "reset", "(I)I"⟩
abbrev cX5_repair : ByteArray := prog_1_method_13_code
def yX5_repair : MethodName := ⟨RX5, "repair", "(I)I"⟩
abbrev cX5_drift : ByteArray := prog_1_method_14_code
def yX5_drift : MethodName := ⟨RX5, "drift", "(I)I"⟩
abbrev cX5_driftOnce : ByteArray := prog_1_method_15_code
def yX5_driftOnce : MethodName := ⟨RX5, "driftOnce", "()V"⟩
abbrev cX5_undo : ByteArray := prog_1_method_16_code
def yX5_undo : MethodName := ⟨RX5, "undo", "(I)I"⟩
abbrev cX5_would : ByteArray := prog_1_method_17_code
def yX5_would : MethodName := ⟨RX5, "would", "(I)I"⟩
abbrev cX5_write : ByteArray := prog_1_method_18_code
def yX5_write : MethodName := ⟨RX5, "write", "(II)I"⟩
abbrev cX5_tear : ByteArray := prog_1_method_19_code
def yX5_tear : MethodName := ⟨RX5, "tear", "()I"⟩
abbrev cX5_seed : ByteArray := prog_1_method_20_code
def yX5_seed : MethodName := ⟨RX5, "seed", "(I)I"⟩
abbrev cX5_keep : ByteArray := prog_1_method_21_code
def yX5_keep : MethodName := ⟨RX5, "keep", "(I)I"⟩
abbrev cX5_goBack : ByteArray := prog_1_method_22_code
def yX5_goBack : MethodName := ⟨RX5, "goBack", "(I)I"⟩
def RX6 : String := "AxleKeeperModel"
def TX6 : u_T := fun k => match k with
  | 0 => ("AxleKeeperModel", "w", "[I", true)
  | 1 => ("AxleKeeperModel", "known", "I", false)
  | 2 => ("AxleKeeperModel", "kept", "I", false)
  | 3 => ("AxleKeeperModel", "bookOf", "[I", true)
  | 4 => ("AxleKeeperModel", "bookCall", "[I", true)
  | _ => ("AxleKeeperModel", "written", "I", false)
def tyX6 : Nat → FieldType := fun k => match k with
  | 0 => .array .int
  | 1 => .int
  | 2 => .int
  | 3 => .array .int
  | 4 => .array .int
  | _ => .int
abbrev wsX60 : List Cond := u_ws RX6 TX6 6
theorem nmX6 : ∀ a, a < 6 → ∀ b, b < 6 → a ≠ b → (TX6 a).2.1 ≠ (TX6 b).2.1 := by decide +kernel
theorem tyX6_ok : ∀ k, k < 6 → parseFieldDescriptor (TX6 k).2.2.1 = some (tyX6 k) := by decide +kernel
abbrev cX6_init : ByteArray := prog_8_method_1_code
def yX6_init : MethodName := ⟨RX6, "<init>", "()V"⟩
abbrev cX6_in : ByteArray := prog_8_method_3_code
def yX6_in : MethodName := ⟨RX6, "in", "(III)Z"⟩
abbrev cX6_has : ByteArray := prog_8_method_4_code
def yX6_has : MethodName := ⟨RX6, "has", "(II)Z"⟩
abbrev cX6_copyRow : ByteArray := prog_8_method_5_code
def yX6_copyRow : MethodName := ⟨RX6, "copyRow", "(II)V"⟩
abbrev cX6_heads : ByteArray := prog_8_method_6_code
def yX6_heads : MethodName := ⟨RX6, "heads", "()I"⟩
abbrev cX6_leftOf : ByteArray := prog_8_method_7_code
def yX6_leftOf : MethodName := ⟨RX6, "leftOf", "(I)I"⟩
abbrev cX6_rightOf : ByteArray := prog_8_method_8_code
def yX6_rightOf : MethodName := ⟨RX6, "rightOf", "(I)I"⟩
abbrev cX6_rightHead : ByteArray := prog_8_method_9_code
def yX6_rightHead : MethodName := ⟨RX6, "rightHead", "(I)I"⟩
abbrev cX6_isSection : ByteArray := prog_8_method_10_code
def yX6_isSection : MethodName := ⟨RX6, "isSection", "(I)Z"⟩
abbrev cX6_isHead : ByteArray := prog_8_method_11_code
def yX6_isHead : MethodName := ⟨RX6, "isHead", "(I)Z"⟩
abbrev cX6_isSet : ByteArray := prog_8_method_12_code
def yX6_isSet : MethodName := ⟨RX6, "isSet", "(I)Z"⟩
abbrev cX6_hear : ByteArray := prog_8_method_13_code
def yX6_hear : MethodName := ⟨RX6, "hear", "(IIZ)V"⟩
abbrev cX6_isBad : ByteArray := prog_8_method_14_code
def yX6_isBad : MethodName := ⟨RX6, "isBad", "(II)Z"⟩
abbrev cX6_hasBad : ByteArray := prog_8_method_15_code
def yX6_hasBad : MethodName := ⟨RX6, "hasBad", "(II)Z"⟩
abbrev cX6_isTrouble : ByteArray := prog_8_method_16_code
def yX6_isTrouble : MethodName := ⟨RX6, "isTrouble", "(II)Z"⟩
abbrev cX6_judgeOne : ByteArray := prog_8_method_17_code
def yX6_judgeOne : MethodName := ⟨RX6, "judgeOne", "(II)V"⟩
abbrev cX6_heal : ByteArray := prog_8_method_18_code
def yX6_heal : MethodName := ⟨RX6, "heal", "(II)V"⟩
abbrev cX6_isJoint : ByteArray := prog_8_method_19_code
def yX6_isJoint : MethodName := ⟨RX6, "isJoint", "(I)Z"⟩
abbrev cX6_sweepOver : ByteArray := prog_8_method_20_code
def yX6_sweepOver : MethodName := ⟨RX6, "sweepOver", "(II)V"⟩
abbrev cX6_tickIn : ByteArray := prog_8_method_21_code
def yX6_tickIn : MethodName := ⟨RX6, "tickIn", "(II)V"⟩
abbrev cX6_called : ByteArray := prog_8_method_22_code
def yX6_called : MethodName := ⟨RX6, "called", "(II)I"⟩
abbrev cX6_byHowMuch : ByteArray := prog_8_method_23_code
def yX6_byHowMuch : MethodName := ⟨RX6, "byHowMuch", "(I)I"⟩
abbrev cX6_leavesNone : ByteArray := prog_8_method_24_code
def yX6_leavesNone : MethodName := ⟨RX6, "leavesNone", "(II)Z"⟩
abbrev cX6_setOf : ByteArray := prog_8_method_25_code
def yX6_setOf : MethodName := ⟨RX6, "setOf", "(I)I"⟩
abbrev cX6_headSet : ByteArray := prog_8_method_26_code
def yX6_headSet : MethodName := ⟨RX6, "headSet", "(Z)I"⟩
abbrev cX6_allOf : ByteArray := prog_8_method_27_code
def yX6_allOf : MethodName := ⟨RX6, "allOf", "(I)I"⟩
abbrev cX6_wrongEntry : ByteArray := prog_8_method_28_code
def yX6_wrongEntry : MethodName := ⟨RX6, "wrongEntry", "()I"⟩
abbrev cX6_told : ByteArray := prog_8_method_29_code
def yX6_told : MethodName := ⟨RX6, "told", "(I)I"⟩
abbrev cX6_leftTelegrams : ByteArray := prog_8_method_30_code
def yX6_leftTelegrams : MethodName := ⟨RX6, "leftTelegrams", "(I)I"⟩
abbrev cX6_run : ByteArray := prog_8_method_31_code
def yX6_run : MethodName := ⟨RX6, "run", "(I)I"⟩
abbrev cX6_section : ByteArray := prog_8_method_32_code
def yX6_section : MethodName := ⟨RX6, "section", "(II)I"⟩
abbrev cX6_joint : ByteArray := prog_8_method_33_code
def yX6_joint : MethodName := ⟨RX6, "joint", "(I)I"⟩
abbrev cX6_head : ByteArray := prog_8_method_34_code
def yX6_head : MethodName := ⟨RX6, "head", "(II)I"⟩
abbrev cX6_remember : ByteArray := prog_8_method_35_code
def yX6_remember : MethodName := ⟨RX6, "remember", "()V"⟩
abbrev cX6_line : ByteArray := prog_8_method_36_code
def yX6_line : MethodName := ⟨RX6, "line", "(IZ)I"⟩
abbrev cX6_placeOf : ByteArray := prog_8_method_37_code
def yX6_placeOf : MethodName := ⟨RX6, "placeOf", "(I)I"⟩
abbrev cX6_feelOne : ByteArray := prog_8_method_38_code
def yX6_feelOne : MethodName := ⟨RX6, "feelOne", "(II)I"⟩
abbrev cX6_feel : ByteArray := prog_8_method_39_code
def yX6_feel : MethodName := ⟨RX6, "feel", "(II)I"⟩
abbrev cX6_canGo : ByteArray := prog_8_method_40_code
def yX6_canGo : MethodName := ⟨RX6, "canGo", "(III)Z"⟩
abbrev cX6_feels : ByteArray := prog_8_method_41_code
def yX6_feels : MethodName := ⟨RX6, "feels", "(I)Z"⟩
abbrev cX6_goOver : ByteArray := prog_8_method_42_code
def yX6_goOver : MethodName := ⟨RX6, "goOver", "(IIIZ)I"⟩
abbrev cX6_goes : ByteArray := prog_8_method_43_code
def yX6_goes : MethodName := ⟨RX6, "goes", "(IIIZ)I"⟩
abbrev cX6_go : ByteArray := prog_8_method_44_code
def yX6_go : MethodName := ⟨RX6, "go", "(III)I"⟩
abbrev cX6_miss : ByteArray := prog_8_method_45_code
def yX6_miss : MethodName := ⟨RX6, "miss", "(III)I"⟩
abbrev cX6_tick : ByteArray := prog_8_method_46_code
def yX6_tick : MethodName := ⟨RX6, "tick", "(I)I"⟩
abbrev cX6_reset : ByteArray := prog_8_method_47_code
def yX6_reset : MethodName := ⟨RX6, "reset", "(I)I"⟩
abbrev cX6_repair : ByteArray := prog_8_method_48_code
def yX6_repair : MethodName := ⟨RX6, "repair", "(I)I"⟩
abbrev cX6_draw : ByteArray := prog_8_method_49_code
def yX6_draw : MethodName := ⟨RX6, "draw", "(I)I"⟩
abbrev cX6_time : ByteArray := prog_8_method_50_code
def yX6_time : MethodName := ⟨RX6, "time", "()V"⟩
abbrev cX6_drift : ByteArray := prog_8_method_51_code
def yX6_drift : MethodName := ⟨RX6, "drift", "(I)I"⟩
abbrev cX6_undo : ByteArray := prog_8_method_52_code
def yX6_undo : MethodName := ⟨RX6, "undo", "(I)I"⟩
abbrev cX6_would : ByteArray := prog_8_method_53_code
def yX6_would : MethodName := ⟨RX6, "would", "(I)I"⟩
abbrev cX6_write : ByteArray := prog_8_method_54_code
def yX6_write : MethodName := ⟨RX6, "write", "(II)I"⟩
abbrev cX6_tear : ByteArray := prog_8_method_55_code
def yX6_tear : MethodName := ⟨RX6, "tear", "()I"⟩
abbrev cX6_seed : ByteArray := prog_8_method_56_code
def yX6_seed : MethodName := ⟨RX6, "seed", "(I)I"⟩
abbrev cX6_keep : ByteArray := prog_8_method_57_code
def yX6_keep : MethodName := ⟨RX6, "keep", "(I)I"⟩
abbrev cX6_goBack : ByteArray := prog_8_method_58_code
def yX6_goBack : MethodName := ⟨RX6, "goBack", "(I)I"⟩
def RJ9 : String := "java/lang/Math"
def TJ9 : u_T := fun k => match k with
  | _ => ("", "", "", false)
def tyJ9 : Nat → FieldType := fun k => match k with
  | _ => .int
abbrev wsJ90 : List Cond := u_ws RJ9 TJ9 0
theorem nmJ9 : ∀ a, a < 0 → ∀ b, b < 0 → a ≠ b → (TJ9 a).2.1 ≠ (TJ9 b).2.1 := by decide +kernel
theorem tyJ9_ok : ∀ k, k < 0 → parseFieldDescriptor (TJ9 k).2.2.1 = some (tyJ9 k) := by decide +kernel
abbrev cJ9_max_7cf53 : ByteArray := prog_9_method_65_code
def yJ9_max_7cf53 : MethodName := ⟨RJ9, "max", "(II)I"⟩
def RJ10 : String := "java/lang/System"
def TJ10 : u_T := fun k => match k with
  | _ => ("", "", "", false)
def tyJ10 : Nat → FieldType := fun k => match k with
  | _ => .int
abbrev wsJ100 : List Cond := u_ws RJ10 TJ10 0
theorem nmJ10 : ∀ a, a < 0 → ∀ b, b < 0 → a ≠ b → (TJ10 a).2.1 ≠ (TJ10 b).2.1 := by decide +kernel
theorem tyJ10_ok : ∀ k, k < 0 → parseFieldDescriptor (TJ10 k).2.2.1 = some (tyJ10 k) := by decide +kernel
def RJ7 : String := "java/util/Arrays"
def TJ7 : u_T := fun k => match k with
  | _ => ("", "", "", false)
def tyJ7 : Nat → FieldType := fun k => match k with
  | _ => .int
abbrev wsJ70 : List Cond := u_ws RJ7 TJ7 0
theorem nmJ7 : ∀ a, a < 0 → ∀ b, b < 0 → a ≠ b → (TJ7 a).2.1 ≠ (TJ7 b).2.1 := by decide +kernel
theorem tyJ7_ok : ∀ k, k < 0 → parseFieldDescriptor (TJ7 k).2.2.1 = some (tyJ7 k) := by decide +kernel
abbrev cJ7_fill_53178 : ByteArray := prog_11_method_103_code
def yJ7_fill_53178 : MethodName := ⟨RJ7, "fill", "([II)V"⟩
def RL : String := "AxleKeeperLaw"
abbrev cL_law : ByteArray := code
def yL_law : MethodName := ⟨RL, "law", "([I)Z"⟩
def wsX0_init : List Cond := .code yX0_init cX0_init 1 none :: ([.methodLink RX0 3 objectInit, .instanceMethod objectInit, .code objectInit ⟨#[0xb1]⟩ 1 none, .arrayClass .int, .fieldLink RX0 11 "AxleKeeper$Book" "sectionOf" "[I", .fieldLink RX0 15 "AxleKeeper$Book" "callOf" "[I"] ++ wsX00)
def wsX0_add : List Cond := .code yX0_add cX0_add 3 none :: ([.fieldLink RX0 18 "AxleKeeper$Book" "size" "I", .fieldLink RX0 11 "AxleKeeper$Book" "sectionOf" "[I", .fieldLink RX0 15 "AxleKeeper$Book" "callOf" "[I"] ++ wsX00)
def wsX3_hasSection : List Cond := .code yX3_hasSection cX3_hasSection 2 (some .boolean) :: ([.fieldLink RX3 48 "AxleKeeper$Line" "sections" "I"] ++ wsX30)
def wsX0_firstWrong : List Cond := .code yX0_firstWrong cX0_firstWrong 4 (some .int) :: ([.fieldLink RX0 18 "AxleKeeper$Book" "size" "I", .fieldLink RX0 11 "AxleKeeper$Book" "sectionOf" "[I", .fieldLink RX0 28 "AxleKeeper$Line" "call" "[I", .fieldLink RX0 15 "AxleKeeper$Book" "callOf" "[I", .methodLink RX0 22 yX3_hasSection, .instanceMethod yX3_hasSection, .selects RX3 yX3_hasSection yX3_hasSection, .initialized RX3, .code yX3_hasSection cX3_hasSection 2 (some .boolean), .fieldLink RX3 48 "AxleKeeper$Line" "sections" "I"] ++ wsX00 ++ wsX30)
def wsX1_init : List Cond := .code yX1_init cX1_init 1 none :: ([.methodLink RX1 1 objectInit, .instanceMethod objectInit, .code objectInit ⟨#[0xb1]⟩ 1 none])
def wsX1_next : List Cond := .code yX1_next cX1_next 2 (some .int) :: ([.fieldLink RX1 7 "AxleKeeper$Draws" "latest" "I", .constant RX1 13 (1103515245), .constant RX1 14 (2147483647), .constant RX1 15 (65536)] ++ wsX10)
def wsX2_init : List Cond := .code yX2_init cX2_init 1 none :: ([.methodLink RX2 1 objectInit, .instanceMethod objectInit, .code objectInit ⟨#[0xb1]⟩ 1 none, .classLink RX2 11 "[[I", .arrayClass .int, .fieldLink RX2 13 "AxleKeeper$Images" "rows" "[[I", .fieldLink RX2 16 "AxleKeeper$Images" "seeds" "[I", .arrayClass .boolean, .fieldLink RX2 20 "AxleKeeper$Images" "kept" "[Z"] ++ wsX20)
def wsX2_hasPlace : List Cond := .code yX2_hasPlace cX2_hasPlace 2 (some .boolean) :: ([])
def wsX3_put : List Cond := .code yX3_put cX3_put 3 (some .int) :: ([.methodLink RX3 158 arraycopyName, .native arraycopyName, .static arraycopyName, .initialized "java/lang/System"])
def wsX3_save : List Cond := .code yX3_save cX3_save 3 none :: ([.fieldLink RX3 48 "AxleKeeper$Line" "sections" "I", .fieldLink RX3 52 "AxleKeeper$Line" "ring" "Z", .fieldLink RX3 56 "AxleKeeper$Line" "ticks" "I", .fieldLink RX3 11 "AxleKeeper$Line" "state" "[I", .fieldLink RX3 15 "AxleKeeper$Line" "wheel" "[I", .fieldLink RX3 18 "AxleKeeper$Line" "count" "[I", .fieldLink RX3 21 "AxleKeeper$Line" "faulty" "[I", .fieldLink RX3 24 "AxleKeeper$Line" "heard" "[I", .fieldLink RX3 27 "AxleKeeper$Line" "heardFaulty" "[I", .fieldLink RX3 30 "AxleKeeper$Line" "age" "[I", .fieldLink RX3 33 "AxleKeeper$Line" "sweptOver" "[I", .fieldLink RX3 36 "AxleKeeper$Line" "sum" "[I", .fieldLink RX3 39 "AxleKeeper$Line" "call" "[I", .fieldLink RX3 42 "AxleKeeper$Line" "entered" "[I", .fieldLink RX3 45 "AxleKeeper$Line" "axles" "[I", .methodLink RX3 154 yX3_put, .static yX3_put, .initialized RX3, .code yX3_put cX3_put 3 (some .int), .methodLink RX3 158 arraycopyName, .native arraycopyName, .static arraycopyName, .initialized "java/lang/System"] ++ wsX30)
def wsX2_take_r1 : List Cond := [Cond.fieldLink RX2 13 "AxleKeeper$Images" "rows" "[[I", Cond.fieldLink RX2 16 "AxleKeeper$Images" "seeds" "[I", Cond.fieldLink RX2 28 "AxleKeeper$Draws" "latest" "I", Cond.fieldLink RX2 20 "AxleKeeper$Images" "kept" "[Z", Cond.methodLink RX2 24 yX3_save, Cond.instanceMethod yX3_save, Cond.selects RX3 yX3_save yX3_save, Cond.initialized RX3, Cond.code yX3_save cX3_save 3 none, Cond.fieldLink RX3 48 "AxleKeeper$Line" "sections" "I", Cond.fieldLink RX3 52 "AxleKeeper$Line" "ring" "Z", Cond.fieldLink RX3 56 "AxleKeeper$Line" "ticks" "I", Cond.fieldLink RX3 11 "AxleKeeper$Line" "state" "[I", Cond.fieldLink RX3 15 "AxleKeeper$Line" "wheel" "[I", Cond.fieldLink RX3 18 "AxleKeeper$Line" "count" "[I", Cond.fieldLink RX3 21 "AxleKeeper$Line" "faulty" "[I", Cond.fieldLink RX3 24 "AxleKeeper$Line" "heard" "[I", Cond.fieldLink RX3 27 "AxleKeeper$Line" "heardFaulty" "[I", Cond.fieldLink RX3 30 "AxleKeeper$Line" "age" "[I", Cond.fieldLink RX3 33 "AxleKeeper$Line" "sweptOver" "[I", Cond.fieldLink RX3 36 "AxleKeeper$Line" "sum" "[I", Cond.fieldLink RX3 39 "AxleKeeper$Line" "call" "[I", Cond.fieldLink RX3 42 "AxleKeeper$Line" "entered" "[I", Cond.fieldLink RX3 45 "AxleKeeper$Line" "axles" "[I"]
def wsX2_take_r2 : List Cond := [Cond.methodLink RX3 154 yX3_put, Cond.static yX3_put, Cond.code yX3_put cX3_put 3 (some .int), Cond.methodLink RX3 158 arraycopyName, Cond.native arraycopyName, Cond.static arraycopyName, Cond.initialized "java/lang/System"]
def wsX2_take : List Cond := .code yX2_take cX2_take 4 none :: ((wsX2_take_r1 ++ wsX2_take_r2) ++ wsX20 ++ wsX10 ++ wsX30)
def wsX3_get : List Cond := .code yX3_get cX3_get 3 (some .int) :: ([.methodLink RX3 158 arraycopyName, .native arraycopyName, .static arraycopyName, .initialized "java/lang/System"])
def wsX3_load : List Cond := .code yX3_load cX3_load 3 none :: ([.fieldLink RX3 48 "AxleKeeper$Line" "sections" "I", .fieldLink RX3 52 "AxleKeeper$Line" "ring" "Z", .fieldLink RX3 56 "AxleKeeper$Line" "ticks" "I", .fieldLink RX3 11 "AxleKeeper$Line" "state" "[I", .fieldLink RX3 15 "AxleKeeper$Line" "wheel" "[I", .fieldLink RX3 18 "AxleKeeper$Line" "count" "[I", .fieldLink RX3 21 "AxleKeeper$Line" "faulty" "[I", .fieldLink RX3 24 "AxleKeeper$Line" "heard" "[I", .fieldLink RX3 27 "AxleKeeper$Line" "heardFaulty" "[I", .fieldLink RX3 30 "AxleKeeper$Line" "age" "[I", .fieldLink RX3 33 "AxleKeeper$Line" "sweptOver" "[I", .fieldLink RX3 36 "AxleKeeper$Line" "sum" "[I", .fieldLink RX3 39 "AxleKeeper$Line" "call" "[I", .fieldLink RX3 42 "AxleKeeper$Line" "entered" "[I", .fieldLink RX3 45 "AxleKeeper$Line" "axles" "[I", .methodLink RX3 164 yX3_get, .static yX3_get, .initialized RX3, .code yX3_get cX3_get 3 (some .int), .methodLink RX3 158 arraycopyName, .native arraycopyName, .static arraycopyName, .initialized "java/lang/System"] ++ wsX30)
def wsX2_giveBack_r1 : List Cond := [Cond.fieldLink RX2 13 "AxleKeeper$Images" "rows" "[[I", Cond.fieldLink RX2 16 "AxleKeeper$Images" "seeds" "[I", Cond.fieldLink RX2 28 "AxleKeeper$Draws" "latest" "I", Cond.methodLink RX2 34 yX3_load, Cond.instanceMethod yX3_load, Cond.selects RX3 yX3_load yX3_load, Cond.initialized RX3, Cond.code yX3_load cX3_load 3 none, Cond.fieldLink RX3 48 "AxleKeeper$Line" "sections" "I", Cond.fieldLink RX3 52 "AxleKeeper$Line" "ring" "Z", Cond.fieldLink RX3 56 "AxleKeeper$Line" "ticks" "I", Cond.fieldLink RX3 11 "AxleKeeper$Line" "state" "[I", Cond.fieldLink RX3 15 "AxleKeeper$Line" "wheel" "[I", Cond.fieldLink RX3 18 "AxleKeeper$Line" "count" "[I", Cond.fieldLink RX3 21 "AxleKeeper$Line" "faulty" "[I", Cond.fieldLink RX3 24 "AxleKeeper$Line" "heard" "[I", Cond.fieldLink RX3 27 "AxleKeeper$Line" "heardFaulty" "[I", Cond.fieldLink RX3 30 "AxleKeeper$Line" "age" "[I", Cond.fieldLink RX3 33 "AxleKeeper$Line" "sweptOver" "[I", Cond.fieldLink RX3 36 "AxleKeeper$Line" "sum" "[I", Cond.fieldLink RX3 39 "AxleKeeper$Line" "call" "[I", Cond.fieldLink RX3 42 "AxleKeeper$Line" "entered" "[I", Cond.fieldLink RX3 45 "AxleKeeper$Line" "axles" "[I", Cond.methodLink RX3 164 yX3_get]
def wsX2_giveBack_r2 : List Cond := [Cond.static yX3_get, Cond.code yX3_get cX3_get 3 (some .int), Cond.methodLink RX3 158 arraycopyName, Cond.native arraycopyName, Cond.static arraycopyName, Cond.initialized "java/lang/System"]
def wsX2_giveBack : List Cond := .code yX2_giveBack cX2_giveBack 4 none :: ((wsX2_giveBack_r1 ++ wsX2_giveBack_r2) ++ wsX20 ++ wsX10 ++ wsX30)
def wsX3_init : List Cond := .code yX3_init cX3_init 1 none :: ([.methodLink RX3 5 objectInit, .instanceMethod objectInit, .code objectInit ⟨#[0xb1]⟩ 1 none, .arrayClass .int, .fieldLink RX3 11 "AxleKeeper$Line" "state" "[I", .fieldLink RX3 15 "AxleKeeper$Line" "wheel" "[I", .fieldLink RX3 18 "AxleKeeper$Line" "count" "[I", .fieldLink RX3 21 "AxleKeeper$Line" "faulty" "[I", .fieldLink RX3 24 "AxleKeeper$Line" "heard" "[I", .fieldLink RX3 27 "AxleKeeper$Line" "heardFaulty" "[I", .fieldLink RX3 30 "AxleKeeper$Line" "age" "[I", .fieldLink RX3 33 "AxleKeeper$Line" "sweptOver" "[I", .fieldLink RX3 36 "AxleKeeper$Line" "sum" "[I", .fieldLink RX3 39 "AxleKeeper$Line" "call" "[I", .fieldLink RX3 42 "AxleKeeper$Line" "entered" "[I", .fieldLink RX3 45 "AxleKeeper$Line" "axles" "[I"] ++ wsX30)
def wsJ7_fill_53178 : List Cond := .code yJ7_fill_53178 cJ7_fill_53178 4 none :: ([])
def wsX3_begin : List Cond := .code yX3_begin cX3_begin 3 none :: ([.fieldLink RX3 48 "AxleKeeper$Line" "sections" "I", .fieldLink RX3 52 "AxleKeeper$Line" "ring" "Z", .fieldLink RX3 56 "AxleKeeper$Line" "ticks" "I", .fieldLink RX3 11 "AxleKeeper$Line" "state" "[I", .fieldLink RX3 15 "AxleKeeper$Line" "wheel" "[I", .fieldLink RX3 18 "AxleKeeper$Line" "count" "[I", .fieldLink RX3 21 "AxleKeeper$Line" "faulty" "[I", .fieldLink RX3 24 "AxleKeeper$Line" "heard" "[I", .fieldLink RX3 27 "AxleKeeper$Line" "heardFaulty" "[I", .fieldLink RX3 30 "AxleKeeper$Line" "age" "[I", .fieldLink RX3 33 "AxleKeeper$Line" "sweptOver" "[I", .fieldLink RX3 36 "AxleKeeper$Line" "sum" "[I", .fieldLink RX3 39 "AxleKeeper$Line" "call" "[I", .fieldLink RX3 42 "AxleKeeper$Line" "entered" "[I", .fieldLink RX3 45 "AxleKeeper$Line" "axles" "[I", .methodLink RX3 59 yJ7_fill_53178, .static yJ7_fill_53178, .initialized RJ7, .code yJ7_fill_53178 cJ7_fill_53178 4 none] ++ wsX30)
def wsX3_heads : List Cond := .code yX3_heads cX3_heads 1 (some .int) :: ([.fieldLink RX3 52 "AxleKeeper$Line" "ring" "Z", .fieldLink RX3 48 "AxleKeeper$Line" "sections" "I"] ++ wsX30)
def wsX3_hasHead : List Cond := .code yX3_hasHead cX3_hasHead 2 (some .boolean) :: ([.methodLink RX3 65 yX3_heads, .instanceMethod yX3_heads, .selects RX3 yX3_heads yX3_heads, .initialized RX3, .code yX3_heads cX3_heads 1 (some .int), .fieldLink RX3 52 "AxleKeeper$Line" "ring" "Z", .fieldLink RX3 48 "AxleKeeper$Line" "sections" "I"] ++ wsX30)
def wsX3_hasHeads : List Cond := .code yX3_hasHeads cX3_hasHeads 2 (some .boolean) :: ([.methodLink RX3 65 yX3_heads, .instanceMethod yX3_heads, .selects RX3 yX3_heads yX3_heads, .initialized RX3, .code yX3_heads cX3_heads 1 (some .int), .fieldLink RX3 52 "AxleKeeper$Line" "ring" "Z", .fieldLink RX3 48 "AxleKeeper$Line" "sections" "I"] ++ wsX30)
def wsX3_leftOf : List Cond := .code yX3_leftOf cX3_leftOf 2 (some .int) :: ([.fieldLink RX3 52 "AxleKeeper$Line" "ring" "Z", .fieldLink RX3 48 "AxleKeeper$Line" "sections" "I"] ++ wsX30)
def wsX3_rightOf : List Cond := .code yX3_rightOf cX3_rightOf 2 (some .int) :: ([.fieldLink RX3 48 "AxleKeeper$Line" "sections" "I"] ++ wsX30)
def wsX3_rightHead : List Cond := .code yX3_rightHead cX3_rightHead 2 (some .int) :: ([.fieldLink RX3 52 "AxleKeeper$Line" "ring" "Z", .fieldLink RX3 48 "AxleKeeper$Line" "sections" "I"] ++ wsX30)
def wsX3_joins : List Cond := .code yX3_joins cX3_joins 4 (some .boolean) :: ([.methodLink RX3 69 yX3_leftOf, .instanceMethod yX3_leftOf, .selects RX3 yX3_leftOf yX3_leftOf, .initialized RX3, .code yX3_leftOf cX3_leftOf 2 (some .int), .fieldLink RX3 52 "AxleKeeper$Line" "ring" "Z", .fieldLink RX3 48 "AxleKeeper$Line" "sections" "I", .methodLink RX3 73 yX3_rightOf, .instanceMethod yX3_rightOf, .selects RX3 yX3_rightOf yX3_rightOf, .code yX3_rightOf cX3_rightOf 2 (some .int), .methodLink RX3 76 yX3_hasSection, .instanceMethod yX3_hasSection, .selects RX3 yX3_hasSection yX3_hasSection, .code yX3_hasSection cX3_hasSection 2 (some .boolean)] ++ wsX30)
def wsX3_countWheel : List Cond := .code yX3_countWheel cX3_countWheel 2 (some .int) :: ([.fieldLink RX3 15 "AxleKeeper$Line" "wheel" "[I", .fieldLink RX3 18 "AxleKeeper$Line" "count" "[I"] ++ wsX30)
def wsX3_stepTo : List Cond := .code yX3_stepTo cX3_stepTo 4 (some .int) :: ([.fieldLink RX3 80 "AxleKeeper$Line" "PLACE" "[I", .fieldLink RX3 11 "AxleKeeper$Line" "state" "[I", .fieldLink RX3 21 "AxleKeeper$Line" "faulty" "[I", .fieldLink RX3 15 "AxleKeeper$Line" "wheel" "[I", .methodLink RX3 83 yX3_countWheel, .instanceMethod yX3_countWheel, .selects RX3 yX3_countWheel yX3_countWheel, .initialized RX3, .code yX3_countWheel cX3_countWheel 2 (some .int), .fieldLink RX3 18 "AxleKeeper$Line" "count" "[I"] ++ wsX30)
def wsX3_feelsAll : List Cond := .code yX3_feelsAll cX3_feelsAll 2 (some .boolean) :: ([.fieldLink RX3 21 "AxleKeeper$Line" "faulty" "[I", .fieldLink RX3 11 "AxleKeeper$Line" "state" "[I"] ++ wsX30)
def wsX3_from : List Cond := .code yX3_from cX3_from 3 (some .int) :: ([.methodLink RX3 69 yX3_leftOf, .instanceMethod yX3_leftOf, .selects RX3 yX3_leftOf yX3_leftOf, .initialized RX3, .code yX3_leftOf cX3_leftOf 2 (some .int), .fieldLink RX3 52 "AxleKeeper$Line" "ring" "Z", .fieldLink RX3 48 "AxleKeeper$Line" "sections" "I", .methodLink RX3 73 yX3_rightOf, .instanceMethod yX3_rightOf, .selects RX3 yX3_rightOf yX3_rightOf, .code yX3_rightOf cX3_rightOf 2 (some .int)] ++ wsX30)
def wsX3_canCarry : List Cond := .code yX3_canCarry cX3_canCarry 5 (some .boolean) :: ([.fieldLink RX3 45 "AxleKeeper$Line" "axles" "[I", .methodLink RX3 86 yX3_from, .instanceMethod yX3_from, .selects RX3 yX3_from yX3_from, .initialized RX3, .code yX3_from cX3_from 3 (some .int), .methodLink RX3 69 yX3_leftOf, .instanceMethod yX3_leftOf, .selects RX3 yX3_leftOf yX3_leftOf, .code yX3_leftOf cX3_leftOf 2 (some .int), .fieldLink RX3 52 "AxleKeeper$Line" "ring" "Z", .fieldLink RX3 48 "AxleKeeper$Line" "sections" "I", .methodLink RX3 73 yX3_rightOf, .instanceMethod yX3_rightOf, .selects RX3 yX3_rightOf yX3_rightOf, .code yX3_rightOf cX3_rightOf 2 (some .int), .methodLink RX3 76 yX3_hasSection, .instanceMethod yX3_hasSection, .selects RX3 yX3_hasSection yX3_hasSection, .code yX3_hasSection cX3_hasSection 2 (some .boolean)] ++ wsX30)
def wsX3_carry : List Cond := .code yX3_carry cX3_carry 7 (some .int) :: ([.fieldLink RX3 18 "AxleKeeper$Line" "count" "[I", .fieldLink RX3 45 "AxleKeeper$Line" "axles" "[I", .methodLink RX3 86 yX3_from, .instanceMethod yX3_from, .selects RX3 yX3_from yX3_from, .initialized RX3, .code yX3_from cX3_from 3 (some .int), .methodLink RX3 69 yX3_leftOf, .instanceMethod yX3_leftOf, .selects RX3 yX3_leftOf yX3_leftOf, .code yX3_leftOf cX3_leftOf 2 (some .int), .fieldLink RX3 52 "AxleKeeper$Line" "ring" "Z", .fieldLink RX3 48 "AxleKeeper$Line" "sections" "I", .methodLink RX3 73 yX3_rightOf, .instanceMethod yX3_rightOf, .selects RX3 yX3_rightOf yX3_rightOf, .code yX3_rightOf cX3_rightOf 2 (some .int), .methodLink RX3 76 yX3_hasSection, .instanceMethod yX3_hasSection, .selects RX3 yX3_hasSection yX3_hasSection, .code yX3_hasSection cX3_hasSection 2 (some .boolean)] ++ wsX30)
def wsX3_mend : List Cond := .code yX3_mend cX3_mend 2 none :: ([.fieldLink RX3 21 "AxleKeeper$Line" "faulty" "[I", .fieldLink RX3 11 "AxleKeeper$Line" "state" "[I", .fieldLink RX3 15 "AxleKeeper$Line" "wheel" "[I"] ++ wsX30)
def wsX3_addToSum : List Cond := .code yX3_addToSum cX3_addToSum 3 none :: ([.fieldLink RX3 36 "AxleKeeper$Line" "sum" "[I", .methodLink RX3 76 yX3_hasSection, .instanceMethod yX3_hasSection, .selects RX3 yX3_hasSection yX3_hasSection, .initialized RX3, .code yX3_hasSection cX3_hasSection 2 (some .boolean), .fieldLink RX3 48 "AxleKeeper$Line" "sections" "I"] ++ wsX30)
def wsX3_receive_r1 : List Cond := [Cond.fieldLink RX3 18 "AxleKeeper$Line" "count" "[I", Cond.fieldLink RX3 24 "AxleKeeper$Line" "heard" "[I", Cond.fieldLink RX3 27 "AxleKeeper$Line" "heardFaulty" "[I", Cond.fieldLink RX3 21 "AxleKeeper$Line" "faulty" "[I", Cond.fieldLink RX3 30 "AxleKeeper$Line" "age" "[I", Cond.methodLink RX3 73 yX3_rightOf, Cond.instanceMethod yX3_rightOf, Cond.selects RX3 yX3_rightOf yX3_rightOf, Cond.initialized RX3, Cond.code yX3_rightOf cX3_rightOf 2 (some .int), Cond.fieldLink RX3 48 "AxleKeeper$Line" "sections" "I", Cond.methodLink RX3 107 yX3_addToSum, Cond.instanceMethod yX3_addToSum, Cond.selects RX3 yX3_addToSum yX3_addToSum, Cond.code yX3_addToSum cX3_addToSum 3 none, Cond.fieldLink RX3 36 "AxleKeeper$Line" "sum" "[I", Cond.methodLink RX3 76 yX3_hasSection, Cond.instanceMethod yX3_hasSection, Cond.selects RX3 yX3_hasSection yX3_hasSection, Cond.code yX3_hasSection cX3_hasSection 2 (some .boolean), Cond.methodLink RX3 69 yX3_leftOf, Cond.instanceMethod yX3_leftOf, Cond.selects RX3 yX3_leftOf yX3_leftOf, Cond.code yX3_leftOf cX3_leftOf 2 (some .int)]
def wsX3_receive_r2 : List Cond := [Cond.fieldLink RX3 52 "AxleKeeper$Line" "ring" "Z"]
def wsX3_receive : List Cond := .code yX3_receive cX3_receive 4 none :: ((wsX3_receive_r1 ++ wsX3_receive_r2) ++ wsX30)
def wsX3_hear_r1 : List Cond := [Cond.fieldLink RX3 30 "AxleKeeper$Line" "age" "[I", Cond.methodLink RX3 65 yX3_heads, Cond.instanceMethod yX3_heads, Cond.selects RX3 yX3_heads yX3_heads, Cond.initialized RX3, Cond.code yX3_heads cX3_heads 1 (some .int), Cond.fieldLink RX3 52 "AxleKeeper$Line" "ring" "Z", Cond.fieldLink RX3 48 "AxleKeeper$Line" "sections" "I", Cond.methodLink RX3 104 yX3_receive, Cond.instanceMethod yX3_receive, Cond.selects RX3 yX3_receive yX3_receive, Cond.code yX3_receive cX3_receive 4 none, Cond.fieldLink RX3 18 "AxleKeeper$Line" "count" "[I", Cond.fieldLink RX3 24 "AxleKeeper$Line" "heard" "[I", Cond.fieldLink RX3 27 "AxleKeeper$Line" "heardFaulty" "[I", Cond.fieldLink RX3 21 "AxleKeeper$Line" "faulty" "[I", Cond.methodLink RX3 73 yX3_rightOf, Cond.instanceMethod yX3_rightOf, Cond.selects RX3 yX3_rightOf yX3_rightOf, Cond.code yX3_rightOf cX3_rightOf 2 (some .int), Cond.methodLink RX3 107 yX3_addToSum, Cond.instanceMethod yX3_addToSum, Cond.selects RX3 yX3_addToSum yX3_addToSum, Cond.code yX3_addToSum cX3_addToSum 3 none]
def wsX3_hear_r2 : List Cond := [Cond.fieldLink RX3 36 "AxleKeeper$Line" "sum" "[I", Cond.methodLink RX3 76 yX3_hasSection, Cond.instanceMethod yX3_hasSection, Cond.selects RX3 yX3_hasSection yX3_hasSection, Cond.code yX3_hasSection cX3_hasSection 2 (some .boolean), Cond.methodLink RX3 69 yX3_leftOf, Cond.instanceMethod yX3_leftOf, Cond.selects RX3 yX3_leftOf yX3_leftOf, Cond.code yX3_leftOf cX3_leftOf 2 (some .int)]
def wsX3_hear : List Cond := .code yX3_hear cX3_hear 3 none :: ((wsX3_hear_r1 ++ wsX3_hear_r2) ++ wsX30)
def wsX3_isBad : List Cond := .code yX3_isBad cX3_isBad 2 (some .boolean) :: ([.fieldLink RX3 27 "AxleKeeper$Line" "heardFaulty" "[I", .fieldLink RX3 30 "AxleKeeper$Line" "age" "[I"] ++ wsX30)
def wsX3_hasBadHead : List Cond := .code yX3_hasBadHead cX3_hasBadHead 2 (some .boolean) :: ([.methodLink RX3 120 yX3_isBad, .instanceMethod yX3_isBad, .selects RX3 yX3_isBad yX3_isBad, .initialized RX3, .code yX3_isBad cX3_isBad 2 (some .boolean), .fieldLink RX3 27 "AxleKeeper$Line" "heardFaulty" "[I", .fieldLink RX3 30 "AxleKeeper$Line" "age" "[I", .methodLink RX3 123 yX3_rightHead, .instanceMethod yX3_rightHead, .selects RX3 yX3_rightHead yX3_rightHead, .code yX3_rightHead cX3_rightHead 2 (some .int), .fieldLink RX3 52 "AxleKeeper$Line" "ring" "Z", .fieldLink RX3 48 "AxleKeeper$Line" "sections" "I"] ++ wsX30)
def wsX3_hasTrouble : List Cond := .code yX3_hasTrouble cX3_hasTrouble 2 (some .boolean) :: ([.fieldLink RX3 36 "AxleKeeper$Line" "sum" "[I", .methodLink RX3 117 yX3_hasBadHead, .instanceMethod yX3_hasBadHead, .selects RX3 yX3_hasBadHead yX3_hasBadHead, .initialized RX3, .code yX3_hasBadHead cX3_hasBadHead 2 (some .boolean), .methodLink RX3 120 yX3_isBad, .instanceMethod yX3_isBad, .selects RX3 yX3_isBad yX3_isBad, .code yX3_isBad cX3_isBad 2 (some .boolean), .fieldLink RX3 27 "AxleKeeper$Line" "heardFaulty" "[I", .fieldLink RX3 30 "AxleKeeper$Line" "age" "[I", .methodLink RX3 123 yX3_rightHead, .instanceMethod yX3_rightHead, .selects RX3 yX3_rightHead yX3_rightHead, .code yX3_rightHead cX3_rightHead 2 (some .int), .fieldLink RX3 52 "AxleKeeper$Line" "ring" "Z", .fieldLink RX3 48 "AxleKeeper$Line" "sections" "I"] ++ wsX30)
def wsX3_judgeSweep : List Cond := .code yX3_judgeSweep cX3_judgeSweep 2 none :: ([.fieldLink RX3 36 "AxleKeeper$Line" "sum" "[I", .fieldLink RX3 42 "AxleKeeper$Line" "entered" "[I", .fieldLink RX3 39 "AxleKeeper$Line" "call" "[I"] ++ wsX30)
def wsX3_judge_r1 : List Cond := [Cond.fieldLink RX3 39 "AxleKeeper$Line" "call" "[I", Cond.fieldLink RX3 36 "AxleKeeper$Line" "sum" "[I", Cond.methodLink RX3 111 yX3_hasTrouble, Cond.instanceMethod yX3_hasTrouble, Cond.selects RX3 yX3_hasTrouble yX3_hasTrouble, Cond.initialized RX3, Cond.code yX3_hasTrouble cX3_hasTrouble 2 (some .boolean), Cond.methodLink RX3 117 yX3_hasBadHead, Cond.instanceMethod yX3_hasBadHead, Cond.selects RX3 yX3_hasBadHead yX3_hasBadHead, Cond.code yX3_hasBadHead cX3_hasBadHead 2 (some .boolean), Cond.methodLink RX3 120 yX3_isBad, Cond.instanceMethod yX3_isBad, Cond.selects RX3 yX3_isBad yX3_isBad, Cond.code yX3_isBad cX3_isBad 2 (some .boolean), Cond.fieldLink RX3 27 "AxleKeeper$Line" "heardFaulty" "[I", Cond.fieldLink RX3 30 "AxleKeeper$Line" "age" "[I", Cond.methodLink RX3 123 yX3_rightHead, Cond.instanceMethod yX3_rightHead, Cond.selects RX3 yX3_rightHead yX3_rightHead, Cond.code yX3_rightHead cX3_rightHead 2 (some .int), Cond.fieldLink RX3 52 "AxleKeeper$Line" "ring" "Z", Cond.fieldLink RX3 48 "AxleKeeper$Line" "sections" "I", Cond.methodLink RX3 114 yX3_judgeSweep]
def wsX3_judge_r2 : List Cond := [Cond.instanceMethod yX3_judgeSweep, Cond.selects RX3 yX3_judgeSweep yX3_judgeSweep, Cond.code yX3_judgeSweep cX3_judgeSweep 2 none, Cond.fieldLink RX3 42 "AxleKeeper$Line" "entered" "[I"]
def wsX3_judge : List Cond := .code yX3_judge cX3_judge 2 none :: ((wsX3_judge_r1 ++ wsX3_judge_r2) ++ wsX30)
def wsX3_joint : List Cond := .code yX3_joint cX3_joint 4 (some .int) :: ([.fieldLink RX3 36 "AxleKeeper$Line" "sum" "[I", .methodLink RX3 69 yX3_leftOf, .instanceMethod yX3_leftOf, .selects RX3 yX3_leftOf yX3_leftOf, .initialized RX3, .code yX3_leftOf cX3_leftOf 2 (some .int), .fieldLink RX3 52 "AxleKeeper$Line" "ring" "Z", .fieldLink RX3 48 "AxleKeeper$Line" "sections" "I", .methodLink RX3 73 yX3_rightOf, .instanceMethod yX3_rightOf, .selects RX3 yX3_rightOf yX3_rightOf, .code yX3_rightOf cX3_rightOf 2 (some .int), .methodLink RX3 76 yX3_hasSection, .instanceMethod yX3_hasSection, .selects RX3 yX3_hasSection yX3_hasSection, .code yX3_hasSection cX3_hasSection 2 (some .boolean)] ++ wsX30)
def wsX3_canHeal_r1 : List Cond := [Cond.fieldLink RX3 33 "AxleKeeper$Line" "sweptOver" "[I", Cond.methodLink RX3 126 yX3_joint, Cond.instanceMethod yX3_joint, Cond.selects RX3 yX3_joint yX3_joint, Cond.initialized RX3, Cond.code yX3_joint cX3_joint 4 (some .int), Cond.fieldLink RX3 36 "AxleKeeper$Line" "sum" "[I", Cond.methodLink RX3 69 yX3_leftOf, Cond.instanceMethod yX3_leftOf, Cond.selects RX3 yX3_leftOf yX3_leftOf, Cond.code yX3_leftOf cX3_leftOf 2 (some .int), Cond.fieldLink RX3 52 "AxleKeeper$Line" "ring" "Z", Cond.fieldLink RX3 48 "AxleKeeper$Line" "sections" "I", Cond.methodLink RX3 73 yX3_rightOf, Cond.instanceMethod yX3_rightOf, Cond.selects RX3 yX3_rightOf yX3_rightOf, Cond.code yX3_rightOf cX3_rightOf 2 (some .int), Cond.methodLink RX3 76 yX3_hasSection, Cond.instanceMethod yX3_hasSection, Cond.selects RX3 yX3_hasSection yX3_hasSection, Cond.code yX3_hasSection cX3_hasSection 2 (some .boolean), Cond.methodLink RX3 117 yX3_hasBadHead, Cond.instanceMethod yX3_hasBadHead, Cond.selects RX3 yX3_hasBadHead yX3_hasBadHead]
def wsX3_canHeal_r2 : List Cond := [Cond.code yX3_hasBadHead cX3_hasBadHead 2 (some .boolean), Cond.methodLink RX3 120 yX3_isBad, Cond.instanceMethod yX3_isBad, Cond.selects RX3 yX3_isBad yX3_isBad, Cond.code yX3_isBad cX3_isBad 2 (some .boolean), Cond.fieldLink RX3 27 "AxleKeeper$Line" "heardFaulty" "[I", Cond.fieldLink RX3 30 "AxleKeeper$Line" "age" "[I", Cond.methodLink RX3 123 yX3_rightHead, Cond.instanceMethod yX3_rightHead, Cond.selects RX3 yX3_rightHead yX3_rightHead, Cond.code yX3_rightHead cX3_rightHead 2 (some .int)]
def wsX3_canHeal : List Cond := .code yX3_canHeal cX3_canHeal 4 (some .boolean) :: ((wsX3_canHeal_r1 ++ wsX3_canHeal_r2) ++ wsX30)
def wsX3_heal : List Cond := .code yX3_heal cX3_heal 4 none :: ([.fieldLink RX3 36 "AxleKeeper$Line" "sum" "[I", .fieldLink RX3 39 "AxleKeeper$Line" "call" "[I", .fieldLink RX3 33 "AxleKeeper$Line" "sweptOver" "[I"] ++ wsX30)
def wsX3_judgeJoint_r1 : List Cond := [Cond.fieldLink RX3 39 "AxleKeeper$Line" "call" "[I", Cond.fieldLink RX3 33 "AxleKeeper$Line" "sweptOver" "[I", Cond.methodLink RX3 126 yX3_joint, Cond.instanceMethod yX3_joint, Cond.selects RX3 yX3_joint yX3_joint, Cond.initialized RX3, Cond.code yX3_joint cX3_joint 4 (some .int), Cond.fieldLink RX3 36 "AxleKeeper$Line" "sum" "[I", Cond.methodLink RX3 69 yX3_leftOf, Cond.instanceMethod yX3_leftOf, Cond.selects RX3 yX3_leftOf yX3_leftOf, Cond.code yX3_leftOf cX3_leftOf 2 (some .int), Cond.fieldLink RX3 52 "AxleKeeper$Line" "ring" "Z", Cond.fieldLink RX3 48 "AxleKeeper$Line" "sections" "I", Cond.methodLink RX3 73 yX3_rightOf, Cond.instanceMethod yX3_rightOf, Cond.selects RX3 yX3_rightOf yX3_rightOf, Cond.code yX3_rightOf cX3_rightOf 2 (some .int), Cond.methodLink RX3 76 yX3_hasSection, Cond.instanceMethod yX3_hasSection, Cond.selects RX3 yX3_hasSection yX3_hasSection, Cond.code yX3_hasSection cX3_hasSection 2 (some .boolean), Cond.methodLink RX3 129 yX3_canHeal, Cond.instanceMethod yX3_canHeal]
def wsX3_judgeJoint_r2 : List Cond := [Cond.selects RX3 yX3_canHeal yX3_canHeal, Cond.code yX3_canHeal cX3_canHeal 4 (some .boolean), Cond.methodLink RX3 117 yX3_hasBadHead, Cond.instanceMethod yX3_hasBadHead, Cond.selects RX3 yX3_hasBadHead yX3_hasBadHead, Cond.code yX3_hasBadHead cX3_hasBadHead 2 (some .boolean), Cond.methodLink RX3 120 yX3_isBad, Cond.instanceMethod yX3_isBad, Cond.selects RX3 yX3_isBad yX3_isBad, Cond.code yX3_isBad cX3_isBad 2 (some .boolean), Cond.fieldLink RX3 27 "AxleKeeper$Line" "heardFaulty" "[I", Cond.fieldLink RX3 30 "AxleKeeper$Line" "age" "[I", Cond.methodLink RX3 123 yX3_rightHead, Cond.instanceMethod yX3_rightHead, Cond.selects RX3 yX3_rightHead yX3_rightHead, Cond.code yX3_rightHead cX3_rightHead 2 (some .int), Cond.methodLink RX3 133 yX3_heal, Cond.instanceMethod yX3_heal, Cond.selects RX3 yX3_heal yX3_heal, Cond.code yX3_heal cX3_heal 4 none]
def wsX3_judgeJoint : List Cond := .code yX3_judgeJoint cX3_judgeJoint 4 none :: ((wsX3_judgeJoint_r1 ++ wsX3_judgeJoint_r2) ++ wsX30)
def wsX3_pass_r1 : List Cond := [Cond.fieldLink RX3 48 "AxleKeeper$Line" "sections" "I", Cond.fieldLink RX3 56 "AxleKeeper$Line" "ticks" "I", Cond.methodLink RX3 90 yX3_hear, Cond.instanceMethod yX3_hear, Cond.selects RX3 yX3_hear yX3_hear, Cond.initialized RX3, Cond.code yX3_hear cX3_hear 3 none, Cond.fieldLink RX3 30 "AxleKeeper$Line" "age" "[I", Cond.methodLink RX3 65 yX3_heads, Cond.instanceMethod yX3_heads, Cond.selects RX3 yX3_heads yX3_heads, Cond.code yX3_heads cX3_heads 1 (some .int), Cond.fieldLink RX3 52 "AxleKeeper$Line" "ring" "Z", Cond.methodLink RX3 104 yX3_receive, Cond.instanceMethod yX3_receive, Cond.selects RX3 yX3_receive yX3_receive, Cond.code yX3_receive cX3_receive 4 none, Cond.fieldLink RX3 18 "AxleKeeper$Line" "count" "[I", Cond.fieldLink RX3 24 "AxleKeeper$Line" "heard" "[I", Cond.fieldLink RX3 27 "AxleKeeper$Line" "heardFaulty" "[I", Cond.fieldLink RX3 21 "AxleKeeper$Line" "faulty" "[I", Cond.methodLink RX3 73 yX3_rightOf, Cond.instanceMethod yX3_rightOf, Cond.selects RX3 yX3_rightOf yX3_rightOf]
def wsX3_pass_r2 : List Cond := [Cond.code yX3_rightOf cX3_rightOf 2 (some .int), Cond.methodLink RX3 107 yX3_addToSum, Cond.instanceMethod yX3_addToSum, Cond.selects RX3 yX3_addToSum yX3_addToSum, Cond.code yX3_addToSum cX3_addToSum 3 none, Cond.fieldLink RX3 36 "AxleKeeper$Line" "sum" "[I", Cond.methodLink RX3 76 yX3_hasSection, Cond.instanceMethod yX3_hasSection, Cond.selects RX3 yX3_hasSection yX3_hasSection, Cond.code yX3_hasSection cX3_hasSection 2 (some .boolean), Cond.methodLink RX3 69 yX3_leftOf, Cond.instanceMethod yX3_leftOf, Cond.selects RX3 yX3_leftOf yX3_leftOf, Cond.code yX3_leftOf cX3_leftOf 2 (some .int), Cond.methodLink RX3 94 yX3_judge, Cond.instanceMethod yX3_judge, Cond.selects RX3 yX3_judge yX3_judge, Cond.code yX3_judge cX3_judge 2 none, Cond.fieldLink RX3 39 "AxleKeeper$Line" "call" "[I", Cond.methodLink RX3 111 yX3_hasTrouble, Cond.instanceMethod yX3_hasTrouble, Cond.selects RX3 yX3_hasTrouble yX3_hasTrouble, Cond.code yX3_hasTrouble cX3_hasTrouble 2 (some .boolean), Cond.methodLink RX3 117 yX3_hasBadHead]
def wsX3_pass_r3 : List Cond := [Cond.instanceMethod yX3_hasBadHead, Cond.selects RX3 yX3_hasBadHead yX3_hasBadHead, Cond.code yX3_hasBadHead cX3_hasBadHead 2 (some .boolean), Cond.methodLink RX3 120 yX3_isBad, Cond.instanceMethod yX3_isBad, Cond.selects RX3 yX3_isBad yX3_isBad, Cond.code yX3_isBad cX3_isBad 2 (some .boolean), Cond.methodLink RX3 123 yX3_rightHead, Cond.instanceMethod yX3_rightHead, Cond.selects RX3 yX3_rightHead yX3_rightHead, Cond.code yX3_rightHead cX3_rightHead 2 (some .int), Cond.methodLink RX3 114 yX3_judgeSweep, Cond.instanceMethod yX3_judgeSweep, Cond.selects RX3 yX3_judgeSweep yX3_judgeSweep, Cond.code yX3_judgeSweep cX3_judgeSweep 2 none, Cond.fieldLink RX3 42 "AxleKeeper$Line" "entered" "[I", Cond.methodLink RX3 97 yX3_joins, Cond.instanceMethod yX3_joins, Cond.selects RX3 yX3_joins yX3_joins, Cond.code yX3_joins cX3_joins 4 (some .boolean), Cond.methodLink RX3 100 yX3_judgeJoint, Cond.instanceMethod yX3_judgeJoint, Cond.selects RX3 yX3_judgeJoint yX3_judgeJoint, Cond.code yX3_judgeJoint cX3_judgeJoint 4 none]
def wsX3_pass_r4 : List Cond := [Cond.fieldLink RX3 33 "AxleKeeper$Line" "sweptOver" "[I", Cond.methodLink RX3 126 yX3_joint, Cond.instanceMethod yX3_joint, Cond.selects RX3 yX3_joint yX3_joint, Cond.code yX3_joint cX3_joint 4 (some .int), Cond.methodLink RX3 129 yX3_canHeal, Cond.instanceMethod yX3_canHeal, Cond.selects RX3 yX3_canHeal yX3_canHeal, Cond.code yX3_canHeal cX3_canHeal 4 (some .boolean), Cond.methodLink RX3 133 yX3_heal, Cond.instanceMethod yX3_heal, Cond.selects RX3 yX3_heal yX3_heal, Cond.code yX3_heal cX3_heal 4 none]
def wsX3_pass : List Cond := .code yX3_pass cX3_pass 3 none :: ((wsX3_pass_r1 ++ (wsX3_pass_r2 ++ (wsX3_pass_r3 ++ wsX3_pass_r4))) ++ wsX30)
def wsX3_awaitSweep : List Cond := .code yX3_awaitSweep cX3_awaitSweep 2 none :: ([.fieldLink RX3 36 "AxleKeeper$Line" "sum" "[I", .fieldLink RX3 39 "AxleKeeper$Line" "call" "[I", .fieldLink RX3 42 "AxleKeeper$Line" "entered" "[I"] ++ wsX30)
def wsX3_called : List Cond := .code yX3_called cX3_called 4 (some .int) :: ([.fieldLink RX3 48 "AxleKeeper$Line" "sections" "I", .fieldLink RX3 39 "AxleKeeper$Line" "call" "[I"] ++ wsX30)
def wsX3_empty : List Cond := .code yX3_empty cX3_empty 3 (some .int) :: ([.fieldLink RX3 48 "AxleKeeper$Line" "sections" "I", .fieldLink RX3 45 "AxleKeeper$Line" "axles" "[I"] ++ wsX30)
def wsX3_wronglyClear : List Cond := .code yX3_wronglyClear cX3_wronglyClear 1 (some .int) :: ([.methodLink RX3 136 yX3_called, .instanceMethod yX3_called, .selects RX3 yX3_called yX3_called, .initialized RX3, .code yX3_called cX3_called 4 (some .int), .fieldLink RX3 48 "AxleKeeper$Line" "sections" "I", .fieldLink RX3 39 "AxleKeeper$Line" "call" "[I", .methodLink RX3 139 yX3_empty, .instanceMethod yX3_empty, .selects RX3 yX3_empty yX3_empty, .code yX3_empty cX3_empty 3 (some .int), .fieldLink RX3 45 "AxleKeeper$Line" "axles" "[I"] ++ wsX30)
def wsX3_idle : List Cond := .code yX3_idle cX3_idle 1 (some .int) :: ([.methodLink RX3 139 yX3_empty, .instanceMethod yX3_empty, .selects RX3 yX3_empty yX3_empty, .initialized RX3, .code yX3_empty cX3_empty 3 (some .int), .fieldLink RX3 48 "AxleKeeper$Line" "sections" "I", .fieldLink RX3 45 "AxleKeeper$Line" "axles" "[I", .methodLink RX3 136 yX3_called, .instanceMethod yX3_called, .selects RX3 yX3_called yX3_called, .code yX3_called cX3_called 4 (some .int), .fieldLink RX3 39 "AxleKeeper$Line" "call" "[I"] ++ wsX30)
def wsX3_faultyHeads : List Cond := .code yX3_faultyHeads cX3_faultyHeads 3 (some .int) :: ([.fieldLink RX3 21 "AxleKeeper$Line" "faulty" "[I", .methodLink RX3 65 yX3_heads, .instanceMethod yX3_heads, .selects RX3 yX3_heads yX3_heads, .initialized RX3, .code yX3_heads cX3_heads 1 (some .int), .fieldLink RX3 52 "AxleKeeper$Line" "ring" "Z", .fieldLink RX3 48 "AxleKeeper$Line" "sections" "I"] ++ wsX30)
def wsX3_axlesInAll : List Cond := .code yX3_axlesInAll cX3_axlesInAll 3 (some .int) :: ([.fieldLink RX3 48 "AxleKeeper$Line" "sections" "I", .fieldLink RX3 45 "AxleKeeper$Line" "axles" "[I"] ++ wsX30)
def wsX3_sumOfAll : List Cond := .code yX3_sumOfAll cX3_sumOfAll 3 (some .int) :: ([.fieldLink RX3 48 "AxleKeeper$Line" "sections" "I", .fieldLink RX3 36 "AxleKeeper$Line" "sum" "[I"] ++ wsX30)
def wsX3_explains : List Cond := .code yX3_explains cX3_explains 5 (some .boolean) :: ([.fieldLink RX3 48 "AxleKeeper$Line" "sections" "I", .fieldLink RX3 36 "AxleKeeper$Line" "sum" "[I", .methodLink RX3 73 yX3_rightOf, .instanceMethod yX3_rightOf, .selects RX3 yX3_rightOf yX3_rightOf, .initialized RX3, .code yX3_rightOf cX3_rightOf 2 (some .int), .methodLink RX3 69 yX3_leftOf, .instanceMethod yX3_leftOf, .selects RX3 yX3_leftOf yX3_leftOf, .code yX3_leftOf cX3_leftOf 2 (some .int), .fieldLink RX3 52 "AxleKeeper$Line" "ring" "Z"] ++ wsX30)
def wsX3_miscount : List Cond := .code yX3_miscount cX3_miscount 3 (some .int) :: ([.methodLink RX3 145 yX3_explains, .instanceMethod yX3_explains, .selects RX3 yX3_explains yX3_explains, .initialized RX3, .code yX3_explains cX3_explains 5 (some .boolean), .fieldLink RX3 48 "AxleKeeper$Line" "sections" "I", .fieldLink RX3 36 "AxleKeeper$Line" "sum" "[I", .methodLink RX3 73 yX3_rightOf, .instanceMethod yX3_rightOf, .selects RX3 yX3_rightOf yX3_rightOf, .code yX3_rightOf cX3_rightOf 2 (some .int), .methodLink RX3 69 yX3_leftOf, .instanceMethod yX3_leftOf, .selects RX3 yX3_leftOf yX3_leftOf, .code yX3_leftOf cX3_leftOf 2 (some .int), .fieldLink RX3 52 "AxleKeeper$Line" "ring" "Z"] ++ wsX30)
def wsX3_suspects : List Cond := .code yX3_suspects cX3_suspects 3 (some .int) :: ([.methodLink RX3 65 yX3_heads, .instanceMethod yX3_heads, .selects RX3 yX3_heads yX3_heads, .initialized RX3, .code yX3_heads cX3_heads 1 (some .int), .fieldLink RX3 52 "AxleKeeper$Line" "ring" "Z", .fieldLink RX3 48 "AxleKeeper$Line" "sections" "I", .methodLink RX3 142 yX3_miscount, .instanceMethod yX3_miscount, .selects RX3 yX3_miscount yX3_miscount, .code yX3_miscount cX3_miscount 3 (some .int), .methodLink RX3 145 yX3_explains, .instanceMethod yX3_explains, .selects RX3 yX3_explains yX3_explains, .code yX3_explains cX3_explains 5 (some .boolean), .fieldLink RX3 36 "AxleKeeper$Line" "sum" "[I", .methodLink RX3 73 yX3_rightOf, .instanceMethod yX3_rightOf, .selects RX3 yX3_rightOf yX3_rightOf, .code yX3_rightOf cX3_rightOf 2 (some .int), .methodLink RX3 69 yX3_leftOf, .instanceMethod yX3_leftOf, .selects RX3 yX3_leftOf yX3_leftOf, .code yX3_leftOf cX3_leftOf 2 (some .int)] ++ wsX30)
def wsX3_lossesLeft : List Cond := .code yX3_lossesLeft cX3_lossesLeft 3 (some .int) :: ([.fieldLink RX3 30 "AxleKeeper$Line" "age" "[I", .methodLink RX3 149 Lib.Math.max.name, .static Lib.Math.max.name, .initialized "java/lang/Math", .code Lib.Math.max.name Lib.Math.max.code 2 (some .int), .methodLink RX3 123 yX3_rightHead, .instanceMethod yX3_rightHead, .selects RX3 yX3_rightHead yX3_rightHead, .initialized RX3, .code yX3_rightHead cX3_rightHead 2 (some .int), .fieldLink RX3 52 "AxleKeeper$Line" "ring" "Z", .fieldLink RX3 48 "AxleKeeper$Line" "sections" "I"] ++ wsX30)
def wsX3_clearRun : List Cond := .code yX3_clearRun cX3_clearRun 4 (some .int) :: ([.fieldLink RX3 48 "AxleKeeper$Line" "sections" "I", .fieldLink RX3 39 "AxleKeeper$Line" "call" "[I", .fieldLink RX3 52 "AxleKeeper$Line" "ring" "Z", .methodLink RX3 76 yX3_hasSection, .instanceMethod yX3_hasSection, .selects RX3 yX3_hasSection yX3_hasSection, .initialized RX3, .code yX3_hasSection cX3_hasSection 2 (some .boolean)] ++ wsX30)
def wsX4_init : List Cond := .code yX4_init cX4_init 1 none :: ([.methodLink RX4 1 objectInit, .instanceMethod objectInit, .code objectInit ⟨#[0xb1]⟩ 1 none, .classLink RX4 11 "[[I", .arrayClass .int, .fieldLink RX4 13 "AxleKeeper$Past" "rows" "[[I"] ++ wsX40)
def wsX4_add_r1 : List Cond := [Cond.fieldLink RX4 13 "AxleKeeper$Past" "rows" "[[I", Cond.fieldLink RX4 16 "AxleKeeper$Past" "next" "I", Cond.fieldLink RX4 24 "AxleKeeper$Past" "size" "I", Cond.methodLink RX4 20 yX3_save, Cond.instanceMethod yX3_save, Cond.selects RX3 yX3_save yX3_save, Cond.initialized RX3, Cond.code yX3_save cX3_save 3 none, Cond.fieldLink RX3 48 "AxleKeeper$Line" "sections" "I", Cond.fieldLink RX3 52 "AxleKeeper$Line" "ring" "Z", Cond.fieldLink RX3 56 "AxleKeeper$Line" "ticks" "I", Cond.fieldLink RX3 11 "AxleKeeper$Line" "state" "[I", Cond.fieldLink RX3 15 "AxleKeeper$Line" "wheel" "[I", Cond.fieldLink RX3 18 "AxleKeeper$Line" "count" "[I", Cond.fieldLink RX3 21 "AxleKeeper$Line" "faulty" "[I", Cond.fieldLink RX3 24 "AxleKeeper$Line" "heard" "[I", Cond.fieldLink RX3 27 "AxleKeeper$Line" "heardFaulty" "[I", Cond.fieldLink RX3 30 "AxleKeeper$Line" "age" "[I", Cond.fieldLink RX3 33 "AxleKeeper$Line" "sweptOver" "[I", Cond.fieldLink RX3 36 "AxleKeeper$Line" "sum" "[I", Cond.fieldLink RX3 39 "AxleKeeper$Line" "call" "[I", Cond.fieldLink RX3 42 "AxleKeeper$Line" "entered" "[I", Cond.fieldLink RX3 45 "AxleKeeper$Line" "axles" "[I", Cond.methodLink RX3 154 yX3_put]
def wsX4_add_r2 : List Cond := [Cond.static yX3_put, Cond.code yX3_put cX3_put 3 (some .int), Cond.methodLink RX3 158 arraycopyName, Cond.native arraycopyName, Cond.static arraycopyName, Cond.initialized "java/lang/System"]
def wsX4_add : List Cond := .code yX4_add cX4_add 2 none :: ((wsX4_add_r1 ++ wsX4_add_r2) ++ wsX40 ++ wsX30)
def wsX4_takeBack_r1 : List Cond := [Cond.fieldLink RX4 24 "AxleKeeper$Past" "size" "I", Cond.fieldLink RX4 16 "AxleKeeper$Past" "next" "I", Cond.fieldLink RX4 13 "AxleKeeper$Past" "rows" "[[I", Cond.methodLink RX4 27 yX3_load, Cond.instanceMethod yX3_load, Cond.selects RX3 yX3_load yX3_load, Cond.initialized RX3, Cond.code yX3_load cX3_load 3 none, Cond.fieldLink RX3 48 "AxleKeeper$Line" "sections" "I", Cond.fieldLink RX3 52 "AxleKeeper$Line" "ring" "Z", Cond.fieldLink RX3 56 "AxleKeeper$Line" "ticks" "I", Cond.fieldLink RX3 11 "AxleKeeper$Line" "state" "[I", Cond.fieldLink RX3 15 "AxleKeeper$Line" "wheel" "[I", Cond.fieldLink RX3 18 "AxleKeeper$Line" "count" "[I", Cond.fieldLink RX3 21 "AxleKeeper$Line" "faulty" "[I", Cond.fieldLink RX3 24 "AxleKeeper$Line" "heard" "[I", Cond.fieldLink RX3 27 "AxleKeeper$Line" "heardFaulty" "[I", Cond.fieldLink RX3 30 "AxleKeeper$Line" "age" "[I", Cond.fieldLink RX3 33 "AxleKeeper$Line" "sweptOver" "[I", Cond.fieldLink RX3 36 "AxleKeeper$Line" "sum" "[I", Cond.fieldLink RX3 39 "AxleKeeper$Line" "call" "[I", Cond.fieldLink RX3 42 "AxleKeeper$Line" "entered" "[I", Cond.fieldLink RX3 45 "AxleKeeper$Line" "axles" "[I", Cond.methodLink RX3 164 yX3_get]
def wsX4_takeBack_r2 : List Cond := [Cond.static yX3_get, Cond.code yX3_get cX3_get 3 (some .int), Cond.methodLink RX3 158 arraycopyName, Cond.native arraycopyName, Cond.static arraycopyName, Cond.initialized "java/lang/System"]
def wsX4_takeBack : List Cond := .code yX4_takeBack cX4_takeBack 3 none :: ((wsX4_takeBack_r1 ++ wsX4_takeBack_r2) ++ wsX40 ++ wsX30)
def wsX5_init_r1 : List Cond := [Cond.methodLink RX5 1 objectInit, Cond.instanceMethod objectInit, Cond.code objectInit ⟨#[0xb1]⟩ 1 none, Cond.classLink RX5 7 RX3, Cond.instantiable RX3 15, Cond.initialized RX3, Cond.fieldLink RX5 10 "AxleKeeper" "now" "LAxleKeeper$Line;", Cond.classLink RX5 16 RX4, Cond.instantiable RX4 3, Cond.initialized RX4, Cond.fieldLink RX5 19 "AxleKeeper" "past" "LAxleKeeper$Past;", Cond.classLink RX5 23 RX0, Cond.instantiable RX0 3, Cond.initialized RX0, Cond.fieldLink RX5 26 "AxleKeeper" "book" "LAxleKeeper$Book;", Cond.classLink RX5 30 RX1, Cond.instantiable RX1 1, Cond.initialized RX1, Cond.fieldLink RX5 33 "AxleKeeper" "draws" "LAxleKeeper$Draws;", Cond.classLink RX5 37 RX2, Cond.instantiable RX2 3, Cond.initialized RX2, Cond.fieldLink RX5 40 "AxleKeeper" "images" "LAxleKeeper$Images;", Cond.arrayClass .int]
def wsX5_init_r2 : List Cond := [Cond.fieldLink RX5 44 "AxleKeeper" "asIs" "[I", Cond.instanceMethod yX3_init, Cond.code yX3_init cX3_init 1 none, Cond.methodLink RX3 5 objectInit, Cond.fieldLink RX3 11 "AxleKeeper$Line" "state" "[I", Cond.fieldLink RX3 15 "AxleKeeper$Line" "wheel" "[I", Cond.fieldLink RX3 18 "AxleKeeper$Line" "count" "[I", Cond.fieldLink RX3 21 "AxleKeeper$Line" "faulty" "[I", Cond.fieldLink RX3 24 "AxleKeeper$Line" "heard" "[I", Cond.fieldLink RX3 27 "AxleKeeper$Line" "heardFaulty" "[I", Cond.fieldLink RX3 30 "AxleKeeper$Line" "age" "[I", Cond.fieldLink RX3 33 "AxleKeeper$Line" "sweptOver" "[I", Cond.fieldLink RX3 36 "AxleKeeper$Line" "sum" "[I", Cond.fieldLink RX3 39 "AxleKeeper$Line" "call" "[I", Cond.fieldLink RX3 42 "AxleKeeper$Line" "entered" "[I", Cond.fieldLink RX3 45 "AxleKeeper$Line" "axles" "[I", Cond.instanceMethod yX4_init, Cond.code yX4_init cX4_init 1 none, Cond.methodLink RX4 1 objectInit, Cond.classLink RX4 11 "[[I", Cond.fieldLink RX4 13 "AxleKeeper$Past" "rows" "[[I", Cond.instanceMethod yX0_init, Cond.code yX0_init cX0_init 1 none, Cond.methodLink RX0 3 objectInit]
def wsX5_init_r3 : List Cond := [Cond.fieldLink RX0 11 "AxleKeeper$Book" "sectionOf" "[I", Cond.fieldLink RX0 15 "AxleKeeper$Book" "callOf" "[I", Cond.instanceMethod yX1_init, Cond.code yX1_init cX1_init 1 none, Cond.methodLink RX1 1 objectInit, Cond.instanceMethod yX2_init, Cond.code yX2_init cX2_init 1 none, Cond.methodLink RX2 1 objectInit, Cond.classLink RX2 11 "[[I", Cond.fieldLink RX2 13 "AxleKeeper$Images" "rows" "[[I", Cond.fieldLink RX2 16 "AxleKeeper$Images" "seeds" "[I", Cond.arrayClass .boolean, Cond.fieldLink RX2 20 "AxleKeeper$Images" "kept" "[Z", Cond.methodLink RX5 48 yX3_begin, Cond.instanceMethod yX3_begin, Cond.selects RX3 yX3_begin yX3_begin, Cond.code yX3_begin cX3_begin 3 none, Cond.fieldLink RX3 48 "AxleKeeper$Line" "sections" "I", Cond.fieldLink RX3 52 "AxleKeeper$Line" "ring" "Z", Cond.fieldLink RX3 56 "AxleKeeper$Line" "ticks" "I", Cond.methodLink RX3 59 yJ7_fill_53178, Cond.static yJ7_fill_53178, Cond.initialized RJ7, Cond.code yJ7_fill_53178 cJ7_fill_53178 4 none]
def wsX5_init : List Cond := .code yX5_init cX5_init 1 none :: ((wsX5_init_r1 ++ (wsX5_init_r2 ++ wsX5_init_r3)) ++ wsX30 ++ wsX50 ++ wsX40 ++ wsX00 ++ wsX10 ++ wsX20)
def wsX5_told_r1 : List Cond := [Cond.fieldLink RX5 10 "AxleKeeper" "now" "LAxleKeeper$Line;", Cond.fieldLink RX5 52 "AxleKeeper$Line" "sections" "I", Cond.fieldLink RX5 60 "AxleKeeper$Line" "ring" "Z", Cond.fieldLink RX5 64 "AxleKeeper$Line" "ticks" "I", Cond.fieldLink RX5 26 "AxleKeeper" "book" "LAxleKeeper$Book;", Cond.fieldLink RX5 89 "AxleKeeper$Book" "size" "I", Cond.fieldLink RX5 19 "AxleKeeper" "past" "LAxleKeeper$Past;", Cond.fieldLink RX5 96 "AxleKeeper$Past" "size" "I", Cond.constant RX5 97 (-1000000002), Cond.methodLink RX5 56 yX3_heads, Cond.instanceMethod yX3_heads, Cond.selects RX3 yX3_heads yX3_heads, Cond.initialized RX3, Cond.code yX3_heads cX3_heads 1 (some .int), Cond.fieldLink RX3 52 "AxleKeeper$Line" "ring" "Z", Cond.fieldLink RX3 48 "AxleKeeper$Line" "sections" "I", Cond.methodLink RX5 67 yX3_called, Cond.instanceMethod yX3_called, Cond.selects RX3 yX3_called yX3_called, Cond.code yX3_called cX3_called 4 (some .int), Cond.fieldLink RX3 39 "AxleKeeper$Line" "call" "[I", Cond.methodLink RX5 71 yX3_wronglyClear, Cond.instanceMethod yX3_wronglyClear, Cond.selects RX3 yX3_wronglyClear yX3_wronglyClear]
def wsX5_told_r2 : List Cond := [Cond.code yX3_wronglyClear cX3_wronglyClear 1 (some .int), Cond.methodLink RX3 136 yX3_called, Cond.methodLink RX3 139 yX3_empty, Cond.instanceMethod yX3_empty, Cond.selects RX3 yX3_empty yX3_empty, Cond.code yX3_empty cX3_empty 3 (some .int), Cond.fieldLink RX3 45 "AxleKeeper$Line" "axles" "[I", Cond.methodLink RX5 74 yX3_idle, Cond.instanceMethod yX3_idle, Cond.selects RX3 yX3_idle yX3_idle, Cond.code yX3_idle cX3_idle 1 (some .int), Cond.methodLink RX5 77 yX3_faultyHeads, Cond.instanceMethod yX3_faultyHeads, Cond.selects RX3 yX3_faultyHeads yX3_faultyHeads, Cond.code yX3_faultyHeads cX3_faultyHeads 3 (some .int), Cond.fieldLink RX3 21 "AxleKeeper$Line" "faulty" "[I", Cond.methodLink RX3 65 yX3_heads, Cond.methodLink RX5 80 yX3_suspects, Cond.instanceMethod yX3_suspects, Cond.selects RX3 yX3_suspects yX3_suspects, Cond.code yX3_suspects cX3_suspects 3 (some .int), Cond.methodLink RX3 142 yX3_miscount, Cond.instanceMethod yX3_miscount, Cond.selects RX3 yX3_miscount yX3_miscount]
def wsX5_told_r3 : List Cond := [Cond.code yX3_miscount cX3_miscount 3 (some .int), Cond.methodLink RX3 145 yX3_explains, Cond.instanceMethod yX3_explains, Cond.selects RX3 yX3_explains yX3_explains, Cond.code yX3_explains cX3_explains 5 (some .boolean), Cond.fieldLink RX3 36 "AxleKeeper$Line" "sum" "[I", Cond.methodLink RX3 73 yX3_rightOf, Cond.instanceMethod yX3_rightOf, Cond.selects RX3 yX3_rightOf yX3_rightOf, Cond.code yX3_rightOf cX3_rightOf 2 (some .int), Cond.methodLink RX3 69 yX3_leftOf, Cond.instanceMethod yX3_leftOf, Cond.selects RX3 yX3_leftOf yX3_leftOf, Cond.code yX3_leftOf cX3_leftOf 2 (some .int), Cond.methodLink RX5 83 yX3_axlesInAll, Cond.instanceMethod yX3_axlesInAll, Cond.selects RX3 yX3_axlesInAll yX3_axlesInAll, Cond.code yX3_axlesInAll cX3_axlesInAll 3 (some .int), Cond.methodLink RX5 86 yX3_sumOfAll, Cond.instanceMethod yX3_sumOfAll, Cond.selects RX3 yX3_sumOfAll yX3_sumOfAll, Cond.code yX3_sumOfAll cX3_sumOfAll 3 (some .int), Cond.methodLink RX5 92 yX0_firstWrong, Cond.instanceMethod yX0_firstWrong]
def wsX5_told_r4 : List Cond := [Cond.selects RX0 yX0_firstWrong yX0_firstWrong, Cond.initialized RX0, Cond.code yX0_firstWrong cX0_firstWrong 4 (some .int), Cond.fieldLink RX0 18 "AxleKeeper$Book" "size" "I", Cond.fieldLink RX0 11 "AxleKeeper$Book" "sectionOf" "[I", Cond.fieldLink RX0 28 "AxleKeeper$Line" "call" "[I", Cond.fieldLink RX0 15 "AxleKeeper$Book" "callOf" "[I", Cond.methodLink RX0 22 yX3_hasSection, Cond.instanceMethod yX3_hasSection, Cond.selects RX3 yX3_hasSection yX3_hasSection, Cond.code yX3_hasSection cX3_hasSection 2 (some .boolean)]
def wsX5_told : List Cond := .code yX5_told cX5_told 2 (some .int) :: ((wsX5_told_r1 ++ (wsX5_told_r2 ++ (wsX5_told_r3 ++ wsX5_told_r4))) ++ wsX50 ++ wsX30 ++ wsX00 ++ wsX40)
def wsX5_section_r1 : List Cond := [Cond.fieldLink RX5 10 "AxleKeeper" "now" "LAxleKeeper$Line;", Cond.constant RX5 102 (-1000000001), Cond.fieldLink RX5 103 "AxleKeeper$Line" "call" "[I", Cond.fieldLink RX5 106 "AxleKeeper$Line" "sum" "[I", Cond.fieldLink RX5 109 "AxleKeeper$Line" "axles" "[I", Cond.fieldLink RX5 115 "AxleKeeper$Line" "entered" "[I", Cond.constant RX5 97 (-1000000002), Cond.methodLink RX5 98 yX3_hasSection, Cond.instanceMethod yX3_hasSection, Cond.selects RX3 yX3_hasSection yX3_hasSection, Cond.initialized RX3, Cond.code yX3_hasSection cX3_hasSection 2 (some .boolean), Cond.fieldLink RX3 48 "AxleKeeper$Line" "sections" "I", Cond.methodLink RX5 112 yX3_hasTrouble, Cond.instanceMethod yX3_hasTrouble, Cond.selects RX3 yX3_hasTrouble yX3_hasTrouble, Cond.code yX3_hasTrouble cX3_hasTrouble 2 (some .boolean), Cond.fieldLink RX3 36 "AxleKeeper$Line" "sum" "[I", Cond.methodLink RX3 117 yX3_hasBadHead, Cond.instanceMethod yX3_hasBadHead, Cond.selects RX3 yX3_hasBadHead yX3_hasBadHead, Cond.code yX3_hasBadHead cX3_hasBadHead 2 (some .boolean), Cond.methodLink RX3 120 yX3_isBad, Cond.instanceMethod yX3_isBad]
def wsX5_section_r2 : List Cond := [Cond.selects RX3 yX3_isBad yX3_isBad, Cond.code yX3_isBad cX3_isBad 2 (some .boolean), Cond.fieldLink RX3 27 "AxleKeeper$Line" "heardFaulty" "[I", Cond.fieldLink RX3 30 "AxleKeeper$Line" "age" "[I", Cond.methodLink RX3 123 yX3_rightHead, Cond.instanceMethod yX3_rightHead, Cond.selects RX3 yX3_rightHead yX3_rightHead, Cond.code yX3_rightHead cX3_rightHead 2 (some .int), Cond.fieldLink RX3 52 "AxleKeeper$Line" "ring" "Z", Cond.methodLink RX5 118 yX3_lossesLeft, Cond.instanceMethod yX3_lossesLeft, Cond.selects RX3 yX3_lossesLeft yX3_lossesLeft, Cond.code yX3_lossesLeft cX3_lossesLeft 3 (some .int), Cond.methodLink RX3 149 Lib.Math.max.name, Cond.static Lib.Math.max.name, Cond.initialized "java/lang/Math", Cond.code Lib.Math.max.name Lib.Math.max.code 2 (some .int), Cond.methodLink RX5 121 yX3_clearRun, Cond.instanceMethod yX3_clearRun, Cond.selects RX3 yX3_clearRun yX3_clearRun, Cond.code yX3_clearRun cX3_clearRun 4 (some .int), Cond.fieldLink RX3 39 "AxleKeeper$Line" "call" "[I", Cond.methodLink RX3 76 yX3_hasSection]
def wsX5_section : List Cond := .code yX5_section cX5_section 3 (some .int) :: ((wsX5_section_r1 ++ wsX5_section_r2) ++ wsX50 ++ wsX30)
def wsX5_miscountTold : List Cond := .code yX5_miscountTold cX5_miscountTold 1 (some .int) :: ([])
def wsX5_head_r1 : List Cond := [Cond.fieldLink RX5 10 "AxleKeeper" "now" "LAxleKeeper$Line;", Cond.constant RX5 102 (-1000000001), Cond.fieldLink RX5 127 "AxleKeeper$Line" "state" "[I", Cond.fieldLink RX5 130 "AxleKeeper$Line" "wheel" "[I", Cond.fieldLink RX5 133 "AxleKeeper$Line" "count" "[I", Cond.fieldLink RX5 136 "AxleKeeper$Line" "heard" "[I", Cond.fieldLink RX5 139 "AxleKeeper$Line" "age" "[I", Cond.fieldLink RX5 142 "AxleKeeper$Line" "faulty" "[I", Cond.fieldLink RX5 145 "AxleKeeper$Line" "heardFaulty" "[I", Cond.fieldLink RX5 148 "AxleKeeper$Line" "sweptOver" "[I", Cond.constant RX5 97 (-1000000002), Cond.methodLink RX5 124 yX3_hasHead, Cond.instanceMethod yX3_hasHead, Cond.selects RX3 yX3_hasHead yX3_hasHead, Cond.initialized RX3, Cond.code yX3_hasHead cX3_hasHead 2 (some .boolean), Cond.methodLink RX3 65 yX3_heads, Cond.instanceMethod yX3_heads, Cond.selects RX3 yX3_heads yX3_heads, Cond.code yX3_heads cX3_heads 1 (some .int), Cond.fieldLink RX3 52 "AxleKeeper$Line" "ring" "Z", Cond.fieldLink RX3 48 "AxleKeeper$Line" "sections" "I", Cond.methodLink RX5 151 yX3_joins, Cond.instanceMethod yX3_joins]
def wsX5_head_r2 : List Cond := [Cond.selects RX3 yX3_joins yX3_joins, Cond.code yX3_joins cX3_joins 4 (some .boolean), Cond.methodLink RX3 69 yX3_leftOf, Cond.instanceMethod yX3_leftOf, Cond.selects RX3 yX3_leftOf yX3_leftOf, Cond.code yX3_leftOf cX3_leftOf 2 (some .int), Cond.methodLink RX3 73 yX3_rightOf, Cond.instanceMethod yX3_rightOf, Cond.selects RX3 yX3_rightOf yX3_rightOf, Cond.code yX3_rightOf cX3_rightOf 2 (some .int), Cond.methodLink RX3 76 yX3_hasSection, Cond.instanceMethod yX3_hasSection, Cond.selects RX3 yX3_hasSection yX3_hasSection, Cond.code yX3_hasSection cX3_hasSection 2 (some .boolean), Cond.methodLink RX5 154 yX3_joint, Cond.instanceMethod yX3_joint, Cond.selects RX3 yX3_joint yX3_joint, Cond.code yX3_joint cX3_joint 4 (some .int), Cond.fieldLink RX3 36 "AxleKeeper$Line" "sum" "[I", Cond.methodLink RX5 157 yX3_miscount, Cond.instanceMethod yX3_miscount, Cond.selects RX3 yX3_miscount yX3_miscount, Cond.code yX3_miscount cX3_miscount 3 (some .int), Cond.methodLink RX3 145 yX3_explains]
def wsX5_head_r3 : List Cond := [Cond.instanceMethod yX3_explains, Cond.selects RX3 yX3_explains yX3_explains, Cond.code yX3_explains cX3_explains 5 (some .boolean), Cond.methodLink RX5 160 yX5_miscountTold, Cond.static yX5_miscountTold, Cond.initialized RX5, Cond.code yX5_miscountTold cX5_miscountTold 1 (some .int)]
def wsX5_head : List Cond := .code yX5_head cX5_head 3 (some .int) :: ((wsX5_head_r1 ++ (wsX5_head_r2 ++ wsX5_head_r3)) ++ wsX50 ++ wsX30)
def wsX5_line_r1 : List Cond := [Cond.constant RX5 97 (-1000000002), Cond.fieldLink RX5 19 "AxleKeeper" "past" "LAxleKeeper$Past;", Cond.fieldLink RX5 10 "AxleKeeper" "now" "LAxleKeeper$Line;", Cond.fieldLink RX5 26 "AxleKeeper" "book" "LAxleKeeper$Book;", Cond.fieldLink RX5 89 "AxleKeeper$Book" "size" "I", Cond.methodLink RX5 163 yX4_add, Cond.instanceMethod yX4_add, Cond.selects RX4 yX4_add yX4_add, Cond.initialized RX4, Cond.code yX4_add cX4_add 2 none, Cond.fieldLink RX4 13 "AxleKeeper$Past" "rows" "[[I", Cond.fieldLink RX4 16 "AxleKeeper$Past" "next" "I", Cond.fieldLink RX4 24 "AxleKeeper$Past" "size" "I", Cond.methodLink RX4 20 yX3_save, Cond.instanceMethod yX3_save, Cond.selects RX3 yX3_save yX3_save, Cond.initialized RX3, Cond.code yX3_save cX3_save 3 none, Cond.fieldLink RX3 48 "AxleKeeper$Line" "sections" "I", Cond.fieldLink RX3 52 "AxleKeeper$Line" "ring" "Z", Cond.fieldLink RX3 56 "AxleKeeper$Line" "ticks" "I", Cond.fieldLink RX3 11 "AxleKeeper$Line" "state" "[I", Cond.fieldLink RX3 15 "AxleKeeper$Line" "wheel" "[I", Cond.fieldLink RX3 18 "AxleKeeper$Line" "count" "[I"]
def wsX5_line_r2 : List Cond := [Cond.fieldLink RX3 21 "AxleKeeper$Line" "faulty" "[I", Cond.fieldLink RX3 24 "AxleKeeper$Line" "heard" "[I", Cond.fieldLink RX3 27 "AxleKeeper$Line" "heardFaulty" "[I", Cond.fieldLink RX3 30 "AxleKeeper$Line" "age" "[I", Cond.fieldLink RX3 33 "AxleKeeper$Line" "sweptOver" "[I", Cond.fieldLink RX3 36 "AxleKeeper$Line" "sum" "[I", Cond.fieldLink RX3 39 "AxleKeeper$Line" "call" "[I", Cond.fieldLink RX3 42 "AxleKeeper$Line" "entered" "[I", Cond.fieldLink RX3 45 "AxleKeeper$Line" "axles" "[I", Cond.methodLink RX3 154 yX3_put, Cond.static yX3_put, Cond.code yX3_put cX3_put 3 (some .int), Cond.methodLink RX3 158 arraycopyName, Cond.native arraycopyName, Cond.static arraycopyName, Cond.initialized "java/lang/System", Cond.methodLink RX5 48 yX3_begin, Cond.instanceMethod yX3_begin, Cond.selects RX3 yX3_begin yX3_begin, Cond.code yX3_begin cX3_begin 3 none, Cond.methodLink RX3 59 yJ7_fill_53178, Cond.static yJ7_fill_53178, Cond.initialized RJ7, Cond.code yJ7_fill_53178 cJ7_fill_53178 4 none]
def wsX5_line_r3 : List Cond := [Cond.methodLink RX5 56 yX3_heads, Cond.instanceMethod yX3_heads, Cond.selects RX3 yX3_heads yX3_heads, Cond.code yX3_heads cX3_heads 1 (some .int)]
def wsX5_line : List Cond := .code yX5_line cX5_line 3 (some .int) :: ((wsX5_line_r1 ++ (wsX5_line_r2 ++ wsX5_line_r3)) ++ wsX50 ++ wsX00 ++ wsX40 ++ wsX30)
def wsX5_feel_r1 : List Cond := [Cond.fieldLink RX5 10 "AxleKeeper" "now" "LAxleKeeper$Line;", Cond.constant RX5 102 (-1000000001), Cond.constant RX5 97 (-1000000002), Cond.fieldLink RX5 142 "AxleKeeper$Line" "faulty" "[I", Cond.fieldLink RX5 127 "AxleKeeper$Line" "state" "[I", Cond.constant RX5 167 (-1000000003), Cond.fieldLink RX5 19 "AxleKeeper" "past" "LAxleKeeper$Past;", Cond.methodLink RX5 124 yX3_hasHead, Cond.instanceMethod yX3_hasHead, Cond.selects RX3 yX3_hasHead yX3_hasHead, Cond.initialized RX3, Cond.code yX3_hasHead cX3_hasHead 2 (some .boolean), Cond.methodLink RX3 65 yX3_heads, Cond.instanceMethod yX3_heads, Cond.selects RX3 yX3_heads yX3_heads, Cond.code yX3_heads cX3_heads 1 (some .int), Cond.fieldLink RX3 52 "AxleKeeper$Line" "ring" "Z", Cond.fieldLink RX3 48 "AxleKeeper$Line" "sections" "I", Cond.methodLink RX5 163 yX4_add, Cond.instanceMethod yX4_add, Cond.selects RX4 yX4_add yX4_add, Cond.initialized RX4, Cond.code yX4_add cX4_add 2 none, Cond.fieldLink RX4 13 "AxleKeeper$Past" "rows" "[[I"]
def wsX5_feel_r2 : List Cond := [Cond.fieldLink RX4 16 "AxleKeeper$Past" "next" "I", Cond.fieldLink RX4 24 "AxleKeeper$Past" "size" "I", Cond.methodLink RX4 20 yX3_save, Cond.instanceMethod yX3_save, Cond.selects RX3 yX3_save yX3_save, Cond.code yX3_save cX3_save 3 none, Cond.fieldLink RX3 56 "AxleKeeper$Line" "ticks" "I", Cond.fieldLink RX3 11 "AxleKeeper$Line" "state" "[I", Cond.fieldLink RX3 15 "AxleKeeper$Line" "wheel" "[I", Cond.fieldLink RX3 18 "AxleKeeper$Line" "count" "[I", Cond.fieldLink RX3 21 "AxleKeeper$Line" "faulty" "[I", Cond.fieldLink RX3 24 "AxleKeeper$Line" "heard" "[I", Cond.fieldLink RX3 27 "AxleKeeper$Line" "heardFaulty" "[I", Cond.fieldLink RX3 30 "AxleKeeper$Line" "age" "[I", Cond.fieldLink RX3 33 "AxleKeeper$Line" "sweptOver" "[I", Cond.fieldLink RX3 36 "AxleKeeper$Line" "sum" "[I", Cond.fieldLink RX3 39 "AxleKeeper$Line" "call" "[I", Cond.fieldLink RX3 42 "AxleKeeper$Line" "entered" "[I", Cond.fieldLink RX3 45 "AxleKeeper$Line" "axles" "[I", Cond.methodLink RX3 154 yX3_put, Cond.static yX3_put, Cond.code yX3_put cX3_put 3 (some .int), Cond.methodLink RX3 158 arraycopyName, Cond.native arraycopyName]
def wsX5_feel_r3 : List Cond := [Cond.static arraycopyName, Cond.initialized "java/lang/System", Cond.methodLink RX5 168 yX3_stepTo, Cond.instanceMethod yX3_stepTo, Cond.selects RX3 yX3_stepTo yX3_stepTo, Cond.code yX3_stepTo cX3_stepTo 4 (some .int), Cond.fieldLink RX3 80 "AxleKeeper$Line" "PLACE" "[I", Cond.methodLink RX3 83 yX3_countWheel, Cond.instanceMethod yX3_countWheel, Cond.selects RX3 yX3_countWheel yX3_countWheel, Cond.code yX3_countWheel cX3_countWheel 2 (some .int)]
def wsX5_feel : List Cond := .code yX5_feel cX5_feel 3 (some .int) :: ((wsX5_feel_r1 ++ (wsX5_feel_r2 ++ wsX5_feel_r3)) ++ wsX50 ++ wsX30 ++ wsX40)
def wsX5_refusalToMove_r1 : List Cond := [Cond.fieldLink RX5 10 "AxleKeeper" "now" "LAxleKeeper$Line;", Cond.constant RX5 102 (-1000000001), Cond.constant RX5 97 (-1000000002), Cond.constant RX5 167 (-1000000003), Cond.methodLink RX5 124 yX3_hasHead, Cond.instanceMethod yX3_hasHead, Cond.selects RX3 yX3_hasHead yX3_hasHead, Cond.initialized RX3, Cond.code yX3_hasHead cX3_hasHead 2 (some .boolean), Cond.methodLink RX3 65 yX3_heads, Cond.instanceMethod yX3_heads, Cond.selects RX3 yX3_heads yX3_heads, Cond.code yX3_heads cX3_heads 1 (some .int), Cond.fieldLink RX3 52 "AxleKeeper$Line" "ring" "Z", Cond.fieldLink RX3 48 "AxleKeeper$Line" "sections" "I", Cond.methodLink RX5 183 yX3_canCarry, Cond.instanceMethod yX3_canCarry, Cond.selects RX3 yX3_canCarry yX3_canCarry, Cond.code yX3_canCarry cX3_canCarry 5 (some .boolean), Cond.fieldLink RX3 45 "AxleKeeper$Line" "axles" "[I", Cond.methodLink RX3 86 yX3_from, Cond.instanceMethod yX3_from, Cond.selects RX3 yX3_from yX3_from, Cond.code yX3_from cX3_from 3 (some .int)]
def wsX5_refusalToMove_r2 : List Cond := [Cond.methodLink RX3 69 yX3_leftOf, Cond.instanceMethod yX3_leftOf, Cond.selects RX3 yX3_leftOf yX3_leftOf, Cond.code yX3_leftOf cX3_leftOf 2 (some .int), Cond.methodLink RX3 73 yX3_rightOf, Cond.instanceMethod yX3_rightOf, Cond.selects RX3 yX3_rightOf yX3_rightOf, Cond.code yX3_rightOf cX3_rightOf 2 (some .int), Cond.methodLink RX3 76 yX3_hasSection, Cond.instanceMethod yX3_hasSection, Cond.selects RX3 yX3_hasSection yX3_hasSection, Cond.code yX3_hasSection cX3_hasSection 2 (some .boolean)]
def wsX5_refusalToMove : List Cond := .code yX5_refusalToMove cX5_refusalToMove 4 (some .int) :: ((wsX5_refusalToMove_r1 ++ wsX5_refusalToMove_r2) ++ wsX50 ++ wsX30)
def wsX5_go_r1 : List Cond := [Cond.fieldLink RX5 10 "AxleKeeper" "now" "LAxleKeeper$Line;", Cond.constant RX5 167 (-1000000003), Cond.fieldLink RX5 19 "AxleKeeper" "past" "LAxleKeeper$Past;", Cond.methodLink RX5 172 yX5_refusalToMove, Cond.instanceMethod yX5_refusalToMove, Cond.selects RX5 yX5_refusalToMove yX5_refusalToMove, Cond.initialized RX5, Cond.code yX5_refusalToMove cX5_refusalToMove 4 (some .int), Cond.constant RX5 102 (-1000000001), Cond.constant RX5 97 (-1000000002), Cond.methodLink RX5 124 yX3_hasHead, Cond.instanceMethod yX3_hasHead, Cond.selects RX3 yX3_hasHead yX3_hasHead, Cond.initialized RX3, Cond.code yX3_hasHead cX3_hasHead 2 (some .boolean), Cond.methodLink RX3 65 yX3_heads, Cond.instanceMethod yX3_heads, Cond.selects RX3 yX3_heads yX3_heads, Cond.code yX3_heads cX3_heads 1 (some .int), Cond.fieldLink RX3 52 "AxleKeeper$Line" "ring" "Z", Cond.fieldLink RX3 48 "AxleKeeper$Line" "sections" "I", Cond.methodLink RX5 183 yX3_canCarry, Cond.instanceMethod yX3_canCarry, Cond.selects RX3 yX3_canCarry yX3_canCarry]
def wsX5_go_r2 : List Cond := [Cond.code yX3_canCarry cX3_canCarry 5 (some .boolean), Cond.fieldLink RX3 45 "AxleKeeper$Line" "axles" "[I", Cond.methodLink RX3 86 yX3_from, Cond.instanceMethod yX3_from, Cond.selects RX3 yX3_from yX3_from, Cond.code yX3_from cX3_from 3 (some .int), Cond.methodLink RX3 69 yX3_leftOf, Cond.instanceMethod yX3_leftOf, Cond.selects RX3 yX3_leftOf yX3_leftOf, Cond.code yX3_leftOf cX3_leftOf 2 (some .int), Cond.methodLink RX3 73 yX3_rightOf, Cond.instanceMethod yX3_rightOf, Cond.selects RX3 yX3_rightOf yX3_rightOf, Cond.code yX3_rightOf cX3_rightOf 2 (some .int), Cond.methodLink RX3 76 yX3_hasSection, Cond.instanceMethod yX3_hasSection, Cond.selects RX3 yX3_hasSection yX3_hasSection, Cond.code yX3_hasSection cX3_hasSection 2 (some .boolean), Cond.methodLink RX5 176 yX3_feelsAll, Cond.instanceMethod yX3_feelsAll, Cond.selects RX3 yX3_feelsAll yX3_feelsAll, Cond.code yX3_feelsAll cX3_feelsAll 2 (some .boolean), Cond.fieldLink RX3 21 "AxleKeeper$Line" "faulty" "[I", Cond.fieldLink RX3 11 "AxleKeeper$Line" "state" "[I"]
def wsX5_go_r3 : List Cond := [Cond.methodLink RX5 163 yX4_add, Cond.instanceMethod yX4_add, Cond.selects RX4 yX4_add yX4_add, Cond.initialized RX4, Cond.code yX4_add cX4_add 2 none, Cond.fieldLink RX4 13 "AxleKeeper$Past" "rows" "[[I", Cond.fieldLink RX4 16 "AxleKeeper$Past" "next" "I", Cond.fieldLink RX4 24 "AxleKeeper$Past" "size" "I", Cond.methodLink RX4 20 yX3_save, Cond.instanceMethod yX3_save, Cond.selects RX3 yX3_save yX3_save, Cond.code yX3_save cX3_save 3 none, Cond.fieldLink RX3 56 "AxleKeeper$Line" "ticks" "I", Cond.fieldLink RX3 15 "AxleKeeper$Line" "wheel" "[I", Cond.fieldLink RX3 18 "AxleKeeper$Line" "count" "[I", Cond.fieldLink RX3 24 "AxleKeeper$Line" "heard" "[I", Cond.fieldLink RX3 27 "AxleKeeper$Line" "heardFaulty" "[I", Cond.fieldLink RX3 30 "AxleKeeper$Line" "age" "[I", Cond.fieldLink RX3 33 "AxleKeeper$Line" "sweptOver" "[I", Cond.fieldLink RX3 36 "AxleKeeper$Line" "sum" "[I", Cond.fieldLink RX3 39 "AxleKeeper$Line" "call" "[I", Cond.fieldLink RX3 42 "AxleKeeper$Line" "entered" "[I", Cond.methodLink RX3 154 yX3_put, Cond.static yX3_put]
def wsX5_go_r4 : List Cond := [Cond.code yX3_put cX3_put 3 (some .int), Cond.methodLink RX3 158 arraycopyName, Cond.native arraycopyName, Cond.static arraycopyName, Cond.initialized "java/lang/System", Cond.methodLink RX5 179 yX3_carry, Cond.instanceMethod yX3_carry, Cond.selects RX3 yX3_carry yX3_carry, Cond.code yX3_carry cX3_carry 7 (some .int)]
def wsX5_go : List Cond := .code yX5_go cX5_go 5 (some .int) :: ((wsX5_go_r1 ++ (wsX5_go_r2 ++ (wsX5_go_r3 ++ wsX5_go_r4))) ++ wsX50 ++ wsX30 ++ wsX40)
def wsX5_miss_r1 : List Cond := [Cond.fieldLink RX5 19 "AxleKeeper" "past" "LAxleKeeper$Past;", Cond.fieldLink RX5 10 "AxleKeeper" "now" "LAxleKeeper$Line;", Cond.methodLink RX5 172 yX5_refusalToMove, Cond.instanceMethod yX5_refusalToMove, Cond.selects RX5 yX5_refusalToMove yX5_refusalToMove, Cond.initialized RX5, Cond.code yX5_refusalToMove cX5_refusalToMove 4 (some .int), Cond.constant RX5 102 (-1000000001), Cond.constant RX5 97 (-1000000002), Cond.constant RX5 167 (-1000000003), Cond.methodLink RX5 124 yX3_hasHead, Cond.instanceMethod yX3_hasHead, Cond.selects RX3 yX3_hasHead yX3_hasHead, Cond.initialized RX3, Cond.code yX3_hasHead cX3_hasHead 2 (some .boolean), Cond.methodLink RX3 65 yX3_heads, Cond.instanceMethod yX3_heads, Cond.selects RX3 yX3_heads yX3_heads, Cond.code yX3_heads cX3_heads 1 (some .int), Cond.fieldLink RX3 52 "AxleKeeper$Line" "ring" "Z", Cond.fieldLink RX3 48 "AxleKeeper$Line" "sections" "I", Cond.methodLink RX5 183 yX3_canCarry, Cond.instanceMethod yX3_canCarry, Cond.selects RX3 yX3_canCarry yX3_canCarry]
def wsX5_miss_r2 : List Cond := [Cond.code yX3_canCarry cX3_canCarry 5 (some .boolean), Cond.fieldLink RX3 45 "AxleKeeper$Line" "axles" "[I", Cond.methodLink RX3 86 yX3_from, Cond.instanceMethod yX3_from, Cond.selects RX3 yX3_from yX3_from, Cond.code yX3_from cX3_from 3 (some .int), Cond.methodLink RX3 69 yX3_leftOf, Cond.instanceMethod yX3_leftOf, Cond.selects RX3 yX3_leftOf yX3_leftOf, Cond.code yX3_leftOf cX3_leftOf 2 (some .int), Cond.methodLink RX3 73 yX3_rightOf, Cond.instanceMethod yX3_rightOf, Cond.selects RX3 yX3_rightOf yX3_rightOf, Cond.code yX3_rightOf cX3_rightOf 2 (some .int), Cond.methodLink RX3 76 yX3_hasSection, Cond.instanceMethod yX3_hasSection, Cond.selects RX3 yX3_hasSection yX3_hasSection, Cond.code yX3_hasSection cX3_hasSection 2 (some .boolean), Cond.methodLink RX5 163 yX4_add, Cond.instanceMethod yX4_add, Cond.selects RX4 yX4_add yX4_add, Cond.initialized RX4, Cond.code yX4_add cX4_add 2 none, Cond.fieldLink RX4 13 "AxleKeeper$Past" "rows" "[[I"]
def wsX5_miss_r3 : List Cond := [Cond.fieldLink RX4 16 "AxleKeeper$Past" "next" "I", Cond.fieldLink RX4 24 "AxleKeeper$Past" "size" "I", Cond.methodLink RX4 20 yX3_save, Cond.instanceMethod yX3_save, Cond.selects RX3 yX3_save yX3_save, Cond.code yX3_save cX3_save 3 none, Cond.fieldLink RX3 56 "AxleKeeper$Line" "ticks" "I", Cond.fieldLink RX3 11 "AxleKeeper$Line" "state" "[I", Cond.fieldLink RX3 15 "AxleKeeper$Line" "wheel" "[I", Cond.fieldLink RX3 18 "AxleKeeper$Line" "count" "[I", Cond.fieldLink RX3 21 "AxleKeeper$Line" "faulty" "[I", Cond.fieldLink RX3 24 "AxleKeeper$Line" "heard" "[I", Cond.fieldLink RX3 27 "AxleKeeper$Line" "heardFaulty" "[I", Cond.fieldLink RX3 30 "AxleKeeper$Line" "age" "[I", Cond.fieldLink RX3 33 "AxleKeeper$Line" "sweptOver" "[I", Cond.fieldLink RX3 36 "AxleKeeper$Line" "sum" "[I", Cond.fieldLink RX3 39 "AxleKeeper$Line" "call" "[I", Cond.fieldLink RX3 42 "AxleKeeper$Line" "entered" "[I", Cond.methodLink RX3 154 yX3_put, Cond.static yX3_put, Cond.code yX3_put cX3_put 3 (some .int), Cond.methodLink RX3 158 arraycopyName, Cond.native arraycopyName, Cond.static arraycopyName]
def wsX5_miss_r4 : List Cond := [Cond.initialized "java/lang/System", Cond.methodLink RX5 179 yX3_carry, Cond.instanceMethod yX3_carry, Cond.selects RX3 yX3_carry yX3_carry, Cond.code yX3_carry cX3_carry 7 (some .int)]
def wsX5_miss : List Cond := .code yX5_miss cX5_miss 5 (some .int) :: ((wsX5_miss_r1 ++ (wsX5_miss_r2 ++ (wsX5_miss_r3 ++ wsX5_miss_r4))) ++ wsX50 ++ wsX30 ++ wsX40)
def wsX5_tick_r1 : List Cond := [Cond.fieldLink RX5 10 "AxleKeeper" "now" "LAxleKeeper$Line;", Cond.constant RX5 102 (-1000000001), Cond.fieldLink RX5 19 "AxleKeeper" "past" "LAxleKeeper$Past;", Cond.methodLink RX5 187 yX3_hasHeads, Cond.instanceMethod yX3_hasHeads, Cond.selects RX3 yX3_hasHeads yX3_hasHeads, Cond.initialized RX3, Cond.code yX3_hasHeads cX3_hasHeads 2 (some .boolean), Cond.methodLink RX3 65 yX3_heads, Cond.instanceMethod yX3_heads, Cond.selects RX3 yX3_heads yX3_heads, Cond.code yX3_heads cX3_heads 1 (some .int), Cond.fieldLink RX3 52 "AxleKeeper$Line" "ring" "Z", Cond.fieldLink RX3 48 "AxleKeeper$Line" "sections" "I", Cond.methodLink RX5 163 yX4_add, Cond.instanceMethod yX4_add, Cond.selects RX4 yX4_add yX4_add, Cond.initialized RX4, Cond.code yX4_add cX4_add 2 none, Cond.fieldLink RX4 13 "AxleKeeper$Past" "rows" "[[I", Cond.fieldLink RX4 16 "AxleKeeper$Past" "next" "I", Cond.fieldLink RX4 24 "AxleKeeper$Past" "size" "I", Cond.methodLink RX4 20 yX3_save, Cond.instanceMethod yX3_save]
def wsX5_tick_r2 : List Cond := [Cond.selects RX3 yX3_save yX3_save, Cond.code yX3_save cX3_save 3 none, Cond.fieldLink RX3 56 "AxleKeeper$Line" "ticks" "I", Cond.fieldLink RX3 11 "AxleKeeper$Line" "state" "[I", Cond.fieldLink RX3 15 "AxleKeeper$Line" "wheel" "[I", Cond.fieldLink RX3 18 "AxleKeeper$Line" "count" "[I", Cond.fieldLink RX3 21 "AxleKeeper$Line" "faulty" "[I", Cond.fieldLink RX3 24 "AxleKeeper$Line" "heard" "[I", Cond.fieldLink RX3 27 "AxleKeeper$Line" "heardFaulty" "[I", Cond.fieldLink RX3 30 "AxleKeeper$Line" "age" "[I", Cond.fieldLink RX3 33 "AxleKeeper$Line" "sweptOver" "[I", Cond.fieldLink RX3 36 "AxleKeeper$Line" "sum" "[I", Cond.fieldLink RX3 39 "AxleKeeper$Line" "call" "[I", Cond.fieldLink RX3 42 "AxleKeeper$Line" "entered" "[I", Cond.fieldLink RX3 45 "AxleKeeper$Line" "axles" "[I", Cond.methodLink RX3 154 yX3_put, Cond.static yX3_put, Cond.code yX3_put cX3_put 3 (some .int), Cond.methodLink RX3 158 arraycopyName, Cond.native arraycopyName, Cond.static arraycopyName, Cond.initialized "java/lang/System", Cond.methodLink RX5 190 yX3_pass, Cond.instanceMethod yX3_pass]
def wsX5_tick_r3 : List Cond := [Cond.selects RX3 yX3_pass yX3_pass, Cond.code yX3_pass cX3_pass 3 none, Cond.methodLink RX3 90 yX3_hear, Cond.instanceMethod yX3_hear, Cond.selects RX3 yX3_hear yX3_hear, Cond.code yX3_hear cX3_hear 3 none, Cond.methodLink RX3 104 yX3_receive, Cond.instanceMethod yX3_receive, Cond.selects RX3 yX3_receive yX3_receive, Cond.code yX3_receive cX3_receive 4 none, Cond.methodLink RX3 73 yX3_rightOf, Cond.instanceMethod yX3_rightOf, Cond.selects RX3 yX3_rightOf yX3_rightOf, Cond.code yX3_rightOf cX3_rightOf 2 (some .int), Cond.methodLink RX3 107 yX3_addToSum, Cond.instanceMethod yX3_addToSum, Cond.selects RX3 yX3_addToSum yX3_addToSum, Cond.code yX3_addToSum cX3_addToSum 3 none, Cond.methodLink RX3 76 yX3_hasSection, Cond.instanceMethod yX3_hasSection, Cond.selects RX3 yX3_hasSection yX3_hasSection, Cond.code yX3_hasSection cX3_hasSection 2 (some .boolean), Cond.methodLink RX3 69 yX3_leftOf, Cond.instanceMethod yX3_leftOf]
def wsX5_tick_r4 : List Cond := [Cond.selects RX3 yX3_leftOf yX3_leftOf, Cond.code yX3_leftOf cX3_leftOf 2 (some .int), Cond.methodLink RX3 94 yX3_judge, Cond.instanceMethod yX3_judge, Cond.selects RX3 yX3_judge yX3_judge, Cond.code yX3_judge cX3_judge 2 none, Cond.methodLink RX3 111 yX3_hasTrouble, Cond.instanceMethod yX3_hasTrouble, Cond.selects RX3 yX3_hasTrouble yX3_hasTrouble, Cond.code yX3_hasTrouble cX3_hasTrouble 2 (some .boolean), Cond.methodLink RX3 117 yX3_hasBadHead, Cond.instanceMethod yX3_hasBadHead, Cond.selects RX3 yX3_hasBadHead yX3_hasBadHead, Cond.code yX3_hasBadHead cX3_hasBadHead 2 (some .boolean), Cond.methodLink RX3 120 yX3_isBad, Cond.instanceMethod yX3_isBad, Cond.selects RX3 yX3_isBad yX3_isBad, Cond.code yX3_isBad cX3_isBad 2 (some .boolean), Cond.methodLink RX3 123 yX3_rightHead, Cond.instanceMethod yX3_rightHead, Cond.selects RX3 yX3_rightHead yX3_rightHead, Cond.code yX3_rightHead cX3_rightHead 2 (some .int), Cond.methodLink RX3 114 yX3_judgeSweep, Cond.instanceMethod yX3_judgeSweep]
def wsX5_tick_r5 : List Cond := [Cond.selects RX3 yX3_judgeSweep yX3_judgeSweep, Cond.code yX3_judgeSweep cX3_judgeSweep 2 none, Cond.methodLink RX3 97 yX3_joins, Cond.instanceMethod yX3_joins, Cond.selects RX3 yX3_joins yX3_joins, Cond.code yX3_joins cX3_joins 4 (some .boolean), Cond.methodLink RX3 100 yX3_judgeJoint, Cond.instanceMethod yX3_judgeJoint, Cond.selects RX3 yX3_judgeJoint yX3_judgeJoint, Cond.code yX3_judgeJoint cX3_judgeJoint 4 none, Cond.methodLink RX3 126 yX3_joint, Cond.instanceMethod yX3_joint, Cond.selects RX3 yX3_joint yX3_joint, Cond.code yX3_joint cX3_joint 4 (some .int), Cond.methodLink RX3 129 yX3_canHeal, Cond.instanceMethod yX3_canHeal, Cond.selects RX3 yX3_canHeal yX3_canHeal, Cond.code yX3_canHeal cX3_canHeal 4 (some .boolean), Cond.methodLink RX3 133 yX3_heal, Cond.instanceMethod yX3_heal, Cond.selects RX3 yX3_heal yX3_heal, Cond.code yX3_heal cX3_heal 4 none, Cond.methodLink RX5 67 yX3_called, Cond.instanceMethod yX3_called]
def wsX5_tick_r6 : List Cond := [Cond.selects RX3 yX3_called yX3_called, Cond.code yX3_called cX3_called 4 (some .int)]
def wsX5_tick : List Cond := .code yX5_tick cX5_tick 2 (some .int) :: ((wsX5_tick_r1 ++ (wsX5_tick_r2 ++ (wsX5_tick_r3 ++ (wsX5_tick_r4 ++ (wsX5_tick_r5 ++ wsX5_tick_r6))))) ++ wsX50 ++ wsX30 ++ wsX40)
def wsX5_reset_r1 : List Cond := [Cond.fieldLink RX5 10 "AxleKeeper" "now" "LAxleKeeper$Line;", Cond.constant RX5 102 (-1000000001), Cond.fieldLink RX5 103 "AxleKeeper$Line" "call" "[I", Cond.constant RX5 167 (-1000000003), Cond.fieldLink RX5 19 "AxleKeeper" "past" "LAxleKeeper$Past;", Cond.fieldLink RX5 106 "AxleKeeper$Line" "sum" "[I", Cond.methodLink RX5 98 yX3_hasSection, Cond.instanceMethod yX3_hasSection, Cond.selects RX3 yX3_hasSection yX3_hasSection, Cond.initialized RX3, Cond.code yX3_hasSection cX3_hasSection 2 (some .boolean), Cond.fieldLink RX3 48 "AxleKeeper$Line" "sections" "I", Cond.methodLink RX5 163 yX4_add, Cond.instanceMethod yX4_add, Cond.selects RX4 yX4_add yX4_add, Cond.initialized RX4, Cond.code yX4_add cX4_add 2 none, Cond.fieldLink RX4 13 "AxleKeeper$Past" "rows" "[[I", Cond.fieldLink RX4 16 "AxleKeeper$Past" "next" "I", Cond.fieldLink RX4 24 "AxleKeeper$Past" "size" "I", Cond.methodLink RX4 20 yX3_save, Cond.instanceMethod yX3_save, Cond.selects RX3 yX3_save yX3_save, Cond.code yX3_save cX3_save 3 none]
def wsX5_reset_r2 : List Cond := [Cond.fieldLink RX3 52 "AxleKeeper$Line" "ring" "Z", Cond.fieldLink RX3 56 "AxleKeeper$Line" "ticks" "I", Cond.fieldLink RX3 11 "AxleKeeper$Line" "state" "[I", Cond.fieldLink RX3 15 "AxleKeeper$Line" "wheel" "[I", Cond.fieldLink RX3 18 "AxleKeeper$Line" "count" "[I", Cond.fieldLink RX3 21 "AxleKeeper$Line" "faulty" "[I", Cond.fieldLink RX3 24 "AxleKeeper$Line" "heard" "[I", Cond.fieldLink RX3 27 "AxleKeeper$Line" "heardFaulty" "[I", Cond.fieldLink RX3 30 "AxleKeeper$Line" "age" "[I", Cond.fieldLink RX3 33 "AxleKeeper$Line" "sweptOver" "[I", Cond.fieldLink RX3 36 "AxleKeeper$Line" "sum" "[I", Cond.fieldLink RX3 39 "AxleKeeper$Line" "call" "[I", Cond.fieldLink RX3 42 "AxleKeeper$Line" "entered" "[I", Cond.fieldLink RX3 45 "AxleKeeper$Line" "axles" "[I", Cond.methodLink RX3 154 yX3_put, Cond.static yX3_put, Cond.code yX3_put cX3_put 3 (some .int), Cond.methodLink RX3 158 arraycopyName, Cond.native arraycopyName, Cond.static arraycopyName, Cond.initialized "java/lang/System", Cond.methodLink RX5 194 yX3_awaitSweep, Cond.instanceMethod yX3_awaitSweep, Cond.selects RX3 yX3_awaitSweep yX3_awaitSweep]
def wsX5_reset_r3 : List Cond := [Cond.code yX3_awaitSweep cX3_awaitSweep 2 none]
def wsX5_reset : List Cond := .code yX5_reset cX5_reset 3 (some .int) :: ((wsX5_reset_r1 ++ (wsX5_reset_r2 ++ wsX5_reset_r3)) ++ wsX50 ++ wsX30 ++ wsX40)
def wsX5_repair_r1 : List Cond := [Cond.fieldLink RX5 10 "AxleKeeper" "now" "LAxleKeeper$Line;", Cond.constant RX5 102 (-1000000001), Cond.fieldLink RX5 142 "AxleKeeper$Line" "faulty" "[I", Cond.constant RX5 167 (-1000000003), Cond.fieldLink RX5 19 "AxleKeeper" "past" "LAxleKeeper$Past;", Cond.fieldLink RX5 127 "AxleKeeper$Line" "state" "[I", Cond.methodLink RX5 124 yX3_hasHead, Cond.instanceMethod yX3_hasHead, Cond.selects RX3 yX3_hasHead yX3_hasHead, Cond.initialized RX3, Cond.code yX3_hasHead cX3_hasHead 2 (some .boolean), Cond.methodLink RX3 65 yX3_heads, Cond.instanceMethod yX3_heads, Cond.selects RX3 yX3_heads yX3_heads, Cond.code yX3_heads cX3_heads 1 (some .int), Cond.fieldLink RX3 52 "AxleKeeper$Line" "ring" "Z", Cond.fieldLink RX3 48 "AxleKeeper$Line" "sections" "I", Cond.methodLink RX5 163 yX4_add, Cond.instanceMethod yX4_add, Cond.selects RX4 yX4_add yX4_add, Cond.initialized RX4, Cond.code yX4_add cX4_add 2 none, Cond.fieldLink RX4 13 "AxleKeeper$Past" "rows" "[[I", Cond.fieldLink RX4 16 "AxleKeeper$Past" "next" "I"]
def wsX5_repair_r2 : List Cond := [Cond.fieldLink RX4 24 "AxleKeeper$Past" "size" "I", Cond.methodLink RX4 20 yX3_save, Cond.instanceMethod yX3_save, Cond.selects RX3 yX3_save yX3_save, Cond.code yX3_save cX3_save 3 none, Cond.fieldLink RX3 56 "AxleKeeper$Line" "ticks" "I", Cond.fieldLink RX3 11 "AxleKeeper$Line" "state" "[I", Cond.fieldLink RX3 15 "AxleKeeper$Line" "wheel" "[I", Cond.fieldLink RX3 18 "AxleKeeper$Line" "count" "[I", Cond.fieldLink RX3 21 "AxleKeeper$Line" "faulty" "[I", Cond.fieldLink RX3 24 "AxleKeeper$Line" "heard" "[I", Cond.fieldLink RX3 27 "AxleKeeper$Line" "heardFaulty" "[I", Cond.fieldLink RX3 30 "AxleKeeper$Line" "age" "[I", Cond.fieldLink RX3 33 "AxleKeeper$Line" "sweptOver" "[I", Cond.fieldLink RX3 36 "AxleKeeper$Line" "sum" "[I", Cond.fieldLink RX3 39 "AxleKeeper$Line" "call" "[I", Cond.fieldLink RX3 42 "AxleKeeper$Line" "entered" "[I", Cond.fieldLink RX3 45 "AxleKeeper$Line" "axles" "[I", Cond.methodLink RX3 154 yX3_put, Cond.static yX3_put, Cond.code yX3_put cX3_put 3 (some .int), Cond.methodLink RX3 158 arraycopyName, Cond.native arraycopyName, Cond.static arraycopyName]
def wsX5_repair_r3 : List Cond := [Cond.initialized "java/lang/System", Cond.methodLink RX5 197 yX3_mend, Cond.instanceMethod yX3_mend, Cond.selects RX3 yX3_mend yX3_mend, Cond.code yX3_mend cX3_mend 2 none]
def wsX5_repair : List Cond := .code yX5_repair cX5_repair 3 (some .int) :: ((wsX5_repair_r1 ++ (wsX5_repair_r2 ++ wsX5_repair_r3)) ++ wsX50 ++ wsX30 ++ wsX40)
def wsX5_driftOnce_r1 : List Cond := [Cond.fieldLink RX5 33 "AxleKeeper" "draws" "LAxleKeeper$Draws;", Cond.fieldLink RX5 10 "AxleKeeper" "now" "LAxleKeeper$Line;", Cond.methodLink RX5 56 yX3_heads, Cond.instanceMethod yX3_heads, Cond.selects RX3 yX3_heads yX3_heads, Cond.initialized RX3, Cond.code yX3_heads cX3_heads 1 (some .int), Cond.fieldLink RX3 52 "AxleKeeper$Line" "ring" "Z", Cond.fieldLink RX3 48 "AxleKeeper$Line" "sections" "I", Cond.methodLink RX5 203 yX1_next, Cond.instanceMethod yX1_next, Cond.selects RX1 yX1_next yX1_next, Cond.initialized RX1, Cond.code yX1_next cX1_next 2 (some .int), Cond.fieldLink RX1 7 "AxleKeeper$Draws" "latest" "I", Cond.constant RX1 13 (1103515245), Cond.constant RX1 14 (2147483647), Cond.constant RX1 15 (65536), Cond.methodLink RX5 183 yX3_canCarry, Cond.instanceMethod yX3_canCarry, Cond.selects RX3 yX3_canCarry yX3_canCarry, Cond.code yX3_canCarry cX3_canCarry 5 (some .boolean), Cond.fieldLink RX3 45 "AxleKeeper$Line" "axles" "[I", Cond.methodLink RX3 86 yX3_from]
def wsX5_driftOnce_r2 : List Cond := [Cond.instanceMethod yX3_from, Cond.selects RX3 yX3_from yX3_from, Cond.code yX3_from cX3_from 3 (some .int), Cond.methodLink RX3 69 yX3_leftOf, Cond.instanceMethod yX3_leftOf, Cond.selects RX3 yX3_leftOf yX3_leftOf, Cond.code yX3_leftOf cX3_leftOf 2 (some .int), Cond.methodLink RX3 73 yX3_rightOf, Cond.instanceMethod yX3_rightOf, Cond.selects RX3 yX3_rightOf yX3_rightOf, Cond.code yX3_rightOf cX3_rightOf 2 (some .int), Cond.methodLink RX3 76 yX3_hasSection, Cond.instanceMethod yX3_hasSection, Cond.selects RX3 yX3_hasSection yX3_hasSection, Cond.code yX3_hasSection cX3_hasSection 2 (some .boolean), Cond.methodLink RX5 176 yX3_feelsAll, Cond.instanceMethod yX3_feelsAll, Cond.selects RX3 yX3_feelsAll yX3_feelsAll, Cond.code yX3_feelsAll cX3_feelsAll 2 (some .boolean), Cond.fieldLink RX3 21 "AxleKeeper$Line" "faulty" "[I", Cond.fieldLink RX3 11 "AxleKeeper$Line" "state" "[I", Cond.methodLink RX5 179 yX3_carry, Cond.instanceMethod yX3_carry, Cond.selects RX3 yX3_carry yX3_carry]
def wsX5_driftOnce_r3 : List Cond := [Cond.code yX3_carry cX3_carry 7 (some .int), Cond.fieldLink RX3 18 "AxleKeeper$Line" "count" "[I", Cond.methodLink RX5 190 yX3_pass, Cond.instanceMethod yX3_pass, Cond.selects RX3 yX3_pass yX3_pass, Cond.code yX3_pass cX3_pass 3 none, Cond.fieldLink RX3 56 "AxleKeeper$Line" "ticks" "I", Cond.methodLink RX3 90 yX3_hear, Cond.instanceMethod yX3_hear, Cond.selects RX3 yX3_hear yX3_hear, Cond.code yX3_hear cX3_hear 3 none, Cond.fieldLink RX3 30 "AxleKeeper$Line" "age" "[I", Cond.methodLink RX3 65 yX3_heads, Cond.methodLink RX3 104 yX3_receive, Cond.instanceMethod yX3_receive, Cond.selects RX3 yX3_receive yX3_receive, Cond.code yX3_receive cX3_receive 4 none, Cond.fieldLink RX3 24 "AxleKeeper$Line" "heard" "[I", Cond.fieldLink RX3 27 "AxleKeeper$Line" "heardFaulty" "[I", Cond.methodLink RX3 107 yX3_addToSum, Cond.instanceMethod yX3_addToSum, Cond.selects RX3 yX3_addToSum yX3_addToSum, Cond.code yX3_addToSum cX3_addToSum 3 none, Cond.fieldLink RX3 36 "AxleKeeper$Line" "sum" "[I"]
def wsX5_driftOnce_r4 : List Cond := [Cond.methodLink RX3 94 yX3_judge, Cond.instanceMethod yX3_judge, Cond.selects RX3 yX3_judge yX3_judge, Cond.code yX3_judge cX3_judge 2 none, Cond.fieldLink RX3 39 "AxleKeeper$Line" "call" "[I", Cond.methodLink RX3 111 yX3_hasTrouble, Cond.instanceMethod yX3_hasTrouble, Cond.selects RX3 yX3_hasTrouble yX3_hasTrouble, Cond.code yX3_hasTrouble cX3_hasTrouble 2 (some .boolean), Cond.methodLink RX3 117 yX3_hasBadHead, Cond.instanceMethod yX3_hasBadHead, Cond.selects RX3 yX3_hasBadHead yX3_hasBadHead, Cond.code yX3_hasBadHead cX3_hasBadHead 2 (some .boolean), Cond.methodLink RX3 120 yX3_isBad, Cond.instanceMethod yX3_isBad, Cond.selects RX3 yX3_isBad yX3_isBad, Cond.code yX3_isBad cX3_isBad 2 (some .boolean), Cond.methodLink RX3 123 yX3_rightHead, Cond.instanceMethod yX3_rightHead, Cond.selects RX3 yX3_rightHead yX3_rightHead, Cond.code yX3_rightHead cX3_rightHead 2 (some .int), Cond.methodLink RX3 114 yX3_judgeSweep, Cond.instanceMethod yX3_judgeSweep, Cond.selects RX3 yX3_judgeSweep yX3_judgeSweep]
def wsX5_driftOnce_r5 : List Cond := [Cond.code yX3_judgeSweep cX3_judgeSweep 2 none, Cond.fieldLink RX3 42 "AxleKeeper$Line" "entered" "[I", Cond.methodLink RX3 97 yX3_joins, Cond.instanceMethod yX3_joins, Cond.selects RX3 yX3_joins yX3_joins, Cond.code yX3_joins cX3_joins 4 (some .boolean), Cond.methodLink RX3 100 yX3_judgeJoint, Cond.instanceMethod yX3_judgeJoint, Cond.selects RX3 yX3_judgeJoint yX3_judgeJoint, Cond.code yX3_judgeJoint cX3_judgeJoint 4 none, Cond.fieldLink RX3 33 "AxleKeeper$Line" "sweptOver" "[I", Cond.methodLink RX3 126 yX3_joint, Cond.instanceMethod yX3_joint, Cond.selects RX3 yX3_joint yX3_joint, Cond.code yX3_joint cX3_joint 4 (some .int), Cond.methodLink RX3 129 yX3_canHeal, Cond.instanceMethod yX3_canHeal, Cond.selects RX3 yX3_canHeal yX3_canHeal, Cond.code yX3_canHeal cX3_canHeal 4 (some .boolean), Cond.methodLink RX3 133 yX3_heal, Cond.instanceMethod yX3_heal, Cond.selects RX3 yX3_heal yX3_heal, Cond.code yX3_heal cX3_heal 4 none]
def wsX5_driftOnce : List Cond := .code yX5_driftOnce cX5_driftOnce 6 none :: ((wsX5_driftOnce_r1 ++ (wsX5_driftOnce_r2 ++ (wsX5_driftOnce_r3 ++ (wsX5_driftOnce_r4 ++ wsX5_driftOnce_r5)))) ++ wsX50 ++ wsX30 ++ wsX10)
def wsX5_drift_r1 : List Cond := [Cond.constant RX5 97 (-1000000002), Cond.fieldLink RX5 19 "AxleKeeper" "past" "LAxleKeeper$Past;", Cond.fieldLink RX5 10 "AxleKeeper" "now" "LAxleKeeper$Line;", Cond.methodLink RX5 163 yX4_add, Cond.instanceMethod yX4_add, Cond.selects RX4 yX4_add yX4_add, Cond.initialized RX4, Cond.code yX4_add cX4_add 2 none, Cond.fieldLink RX4 13 "AxleKeeper$Past" "rows" "[[I", Cond.fieldLink RX4 16 "AxleKeeper$Past" "next" "I", Cond.fieldLink RX4 24 "AxleKeeper$Past" "size" "I", Cond.methodLink RX4 20 yX3_save, Cond.instanceMethod yX3_save, Cond.selects RX3 yX3_save yX3_save, Cond.initialized RX3, Cond.code yX3_save cX3_save 3 none, Cond.fieldLink RX3 48 "AxleKeeper$Line" "sections" "I", Cond.fieldLink RX3 52 "AxleKeeper$Line" "ring" "Z", Cond.fieldLink RX3 56 "AxleKeeper$Line" "ticks" "I", Cond.fieldLink RX3 11 "AxleKeeper$Line" "state" "[I", Cond.fieldLink RX3 15 "AxleKeeper$Line" "wheel" "[I", Cond.fieldLink RX3 18 "AxleKeeper$Line" "count" "[I", Cond.fieldLink RX3 21 "AxleKeeper$Line" "faulty" "[I", Cond.fieldLink RX3 24 "AxleKeeper$Line" "heard" "[I"]
def wsX5_drift_r2 : List Cond := [Cond.fieldLink RX3 27 "AxleKeeper$Line" "heardFaulty" "[I", Cond.fieldLink RX3 30 "AxleKeeper$Line" "age" "[I", Cond.fieldLink RX3 33 "AxleKeeper$Line" "sweptOver" "[I", Cond.fieldLink RX3 36 "AxleKeeper$Line" "sum" "[I", Cond.fieldLink RX3 39 "AxleKeeper$Line" "call" "[I", Cond.fieldLink RX3 42 "AxleKeeper$Line" "entered" "[I", Cond.fieldLink RX3 45 "AxleKeeper$Line" "axles" "[I", Cond.methodLink RX3 154 yX3_put, Cond.static yX3_put, Cond.code yX3_put cX3_put 3 (some .int), Cond.methodLink RX3 158 arraycopyName, Cond.native arraycopyName, Cond.static arraycopyName, Cond.initialized "java/lang/System", Cond.methodLink RX5 200 yX5_driftOnce, Cond.instanceMethod yX5_driftOnce, Cond.selects RX5 yX5_driftOnce yX5_driftOnce, Cond.initialized RX5, Cond.code yX5_driftOnce cX5_driftOnce 6 none, Cond.fieldLink RX5 33 "AxleKeeper" "draws" "LAxleKeeper$Draws;", Cond.methodLink RX5 56 yX3_heads, Cond.instanceMethod yX3_heads, Cond.selects RX3 yX3_heads yX3_heads, Cond.code yX3_heads cX3_heads 1 (some .int)]
def wsX5_drift_r3 : List Cond := [Cond.methodLink RX5 203 yX1_next, Cond.instanceMethod yX1_next, Cond.selects RX1 yX1_next yX1_next, Cond.initialized RX1, Cond.code yX1_next cX1_next 2 (some .int), Cond.fieldLink RX1 7 "AxleKeeper$Draws" "latest" "I", Cond.constant RX1 13 (1103515245), Cond.constant RX1 14 (2147483647), Cond.constant RX1 15 (65536), Cond.methodLink RX5 183 yX3_canCarry, Cond.instanceMethod yX3_canCarry, Cond.selects RX3 yX3_canCarry yX3_canCarry, Cond.code yX3_canCarry cX3_canCarry 5 (some .boolean), Cond.methodLink RX3 86 yX3_from, Cond.instanceMethod yX3_from, Cond.selects RX3 yX3_from yX3_from, Cond.code yX3_from cX3_from 3 (some .int), Cond.methodLink RX3 69 yX3_leftOf, Cond.instanceMethod yX3_leftOf, Cond.selects RX3 yX3_leftOf yX3_leftOf, Cond.code yX3_leftOf cX3_leftOf 2 (some .int), Cond.methodLink RX3 73 yX3_rightOf, Cond.instanceMethod yX3_rightOf, Cond.selects RX3 yX3_rightOf yX3_rightOf]
def wsX5_drift_r4 : List Cond := [Cond.code yX3_rightOf cX3_rightOf 2 (some .int), Cond.methodLink RX3 76 yX3_hasSection, Cond.instanceMethod yX3_hasSection, Cond.selects RX3 yX3_hasSection yX3_hasSection, Cond.code yX3_hasSection cX3_hasSection 2 (some .boolean), Cond.methodLink RX5 176 yX3_feelsAll, Cond.instanceMethod yX3_feelsAll, Cond.selects RX3 yX3_feelsAll yX3_feelsAll, Cond.code yX3_feelsAll cX3_feelsAll 2 (some .boolean), Cond.methodLink RX5 179 yX3_carry, Cond.instanceMethod yX3_carry, Cond.selects RX3 yX3_carry yX3_carry, Cond.code yX3_carry cX3_carry 7 (some .int), Cond.methodLink RX5 190 yX3_pass, Cond.instanceMethod yX3_pass, Cond.selects RX3 yX3_pass yX3_pass, Cond.code yX3_pass cX3_pass 3 none, Cond.methodLink RX3 90 yX3_hear, Cond.instanceMethod yX3_hear, Cond.selects RX3 yX3_hear yX3_hear, Cond.code yX3_hear cX3_hear 3 none, Cond.methodLink RX3 65 yX3_heads, Cond.methodLink RX3 104 yX3_receive, Cond.instanceMethod yX3_receive]
def wsX5_drift_r5 : List Cond := [Cond.selects RX3 yX3_receive yX3_receive, Cond.code yX3_receive cX3_receive 4 none, Cond.methodLink RX3 107 yX3_addToSum, Cond.instanceMethod yX3_addToSum, Cond.selects RX3 yX3_addToSum yX3_addToSum, Cond.code yX3_addToSum cX3_addToSum 3 none, Cond.methodLink RX3 94 yX3_judge, Cond.instanceMethod yX3_judge, Cond.selects RX3 yX3_judge yX3_judge, Cond.code yX3_judge cX3_judge 2 none, Cond.methodLink RX3 111 yX3_hasTrouble, Cond.instanceMethod yX3_hasTrouble, Cond.selects RX3 yX3_hasTrouble yX3_hasTrouble, Cond.code yX3_hasTrouble cX3_hasTrouble 2 (some .boolean), Cond.methodLink RX3 117 yX3_hasBadHead, Cond.instanceMethod yX3_hasBadHead, Cond.selects RX3 yX3_hasBadHead yX3_hasBadHead, Cond.code yX3_hasBadHead cX3_hasBadHead 2 (some .boolean), Cond.methodLink RX3 120 yX3_isBad, Cond.instanceMethod yX3_isBad, Cond.selects RX3 yX3_isBad yX3_isBad, Cond.code yX3_isBad cX3_isBad 2 (some .boolean), Cond.methodLink RX3 123 yX3_rightHead, Cond.instanceMethod yX3_rightHead]
def wsX5_drift_r6 : List Cond := [Cond.selects RX3 yX3_rightHead yX3_rightHead, Cond.code yX3_rightHead cX3_rightHead 2 (some .int), Cond.methodLink RX3 114 yX3_judgeSweep, Cond.instanceMethod yX3_judgeSweep, Cond.selects RX3 yX3_judgeSweep yX3_judgeSweep, Cond.code yX3_judgeSweep cX3_judgeSweep 2 none, Cond.methodLink RX3 97 yX3_joins, Cond.instanceMethod yX3_joins, Cond.selects RX3 yX3_joins yX3_joins, Cond.code yX3_joins cX3_joins 4 (some .boolean), Cond.methodLink RX3 100 yX3_judgeJoint, Cond.instanceMethod yX3_judgeJoint, Cond.selects RX3 yX3_judgeJoint yX3_judgeJoint, Cond.code yX3_judgeJoint cX3_judgeJoint 4 none, Cond.methodLink RX3 126 yX3_joint, Cond.instanceMethod yX3_joint, Cond.selects RX3 yX3_joint yX3_joint, Cond.code yX3_joint cX3_joint 4 (some .int), Cond.methodLink RX3 129 yX3_canHeal, Cond.instanceMethod yX3_canHeal, Cond.selects RX3 yX3_canHeal yX3_canHeal, Cond.code yX3_canHeal cX3_canHeal 4 (some .boolean), Cond.methodLink RX3 133 yX3_heal, Cond.instanceMethod yX3_heal]
def wsX5_drift_r7 : List Cond := [Cond.selects RX3 yX3_heal yX3_heal, Cond.code yX3_heal cX3_heal 4 none, Cond.methodLink RX5 67 yX3_called, Cond.instanceMethod yX3_called, Cond.selects RX3 yX3_called yX3_called, Cond.code yX3_called cX3_called 4 (some .int)]
def wsX5_drift : List Cond := .code yX5_drift cX5_drift 3 (some .int) :: ((wsX5_drift_r1 ++ (wsX5_drift_r2 ++ (wsX5_drift_r3 ++ (wsX5_drift_r4 ++ (wsX5_drift_r5 ++ (wsX5_drift_r6 ++ wsX5_drift_r7)))))) ++ wsX50 ++ wsX40 ++ wsX30 ++ wsX10)
def wsX5_undo_r1 : List Cond := [Cond.constant RX5 97 (-1000000002), Cond.fieldLink RX5 19 "AxleKeeper" "past" "LAxleKeeper$Past;", Cond.fieldLink RX5 96 "AxleKeeper$Past" "size" "I", Cond.constant RX5 167 (-1000000003), Cond.fieldLink RX5 10 "AxleKeeper" "now" "LAxleKeeper$Line;", Cond.methodLink RX5 206 yX4_takeBack, Cond.instanceMethod yX4_takeBack, Cond.selects RX4 yX4_takeBack yX4_takeBack, Cond.initialized RX4, Cond.code yX4_takeBack cX4_takeBack 3 none, Cond.fieldLink RX4 24 "AxleKeeper$Past" "size" "I", Cond.fieldLink RX4 16 "AxleKeeper$Past" "next" "I", Cond.fieldLink RX4 13 "AxleKeeper$Past" "rows" "[[I", Cond.methodLink RX4 27 yX3_load, Cond.instanceMethod yX3_load, Cond.selects RX3 yX3_load yX3_load, Cond.initialized RX3, Cond.code yX3_load cX3_load 3 none, Cond.fieldLink RX3 48 "AxleKeeper$Line" "sections" "I", Cond.fieldLink RX3 52 "AxleKeeper$Line" "ring" "Z", Cond.fieldLink RX3 56 "AxleKeeper$Line" "ticks" "I", Cond.fieldLink RX3 11 "AxleKeeper$Line" "state" "[I", Cond.fieldLink RX3 15 "AxleKeeper$Line" "wheel" "[I", Cond.fieldLink RX3 18 "AxleKeeper$Line" "count" "[I"]
def wsX5_undo_r2 : List Cond := [Cond.fieldLink RX3 21 "AxleKeeper$Line" "faulty" "[I", Cond.fieldLink RX3 24 "AxleKeeper$Line" "heard" "[I", Cond.fieldLink RX3 27 "AxleKeeper$Line" "heardFaulty" "[I", Cond.fieldLink RX3 30 "AxleKeeper$Line" "age" "[I", Cond.fieldLink RX3 33 "AxleKeeper$Line" "sweptOver" "[I", Cond.fieldLink RX3 36 "AxleKeeper$Line" "sum" "[I", Cond.fieldLink RX3 39 "AxleKeeper$Line" "call" "[I", Cond.fieldLink RX3 42 "AxleKeeper$Line" "entered" "[I", Cond.fieldLink RX3 45 "AxleKeeper$Line" "axles" "[I", Cond.methodLink RX3 164 yX3_get, Cond.static yX3_get, Cond.code yX3_get cX3_get 3 (some .int), Cond.methodLink RX3 158 arraycopyName, Cond.native arraycopyName, Cond.static arraycopyName, Cond.initialized "java/lang/System"]
def wsX5_undo : List Cond := .code yX5_undo cX5_undo 2 (some .int) :: ((wsX5_undo_r1 ++ wsX5_undo_r2) ++ wsX50 ++ wsX40 ++ wsX30)
def wsX5_would_r1 : List Cond := [Cond.fieldLink RX5 10 "AxleKeeper" "now" "LAxleKeeper$Line;", Cond.constant RX5 102 (-1000000001), Cond.fieldLink RX5 44 "AxleKeeper" "asIs" "[I", Cond.methodLink RX5 187 yX3_hasHeads, Cond.instanceMethod yX3_hasHeads, Cond.selects RX3 yX3_hasHeads yX3_hasHeads, Cond.initialized RX3, Cond.code yX3_hasHeads cX3_hasHeads 2 (some .boolean), Cond.methodLink RX3 65 yX3_heads, Cond.instanceMethod yX3_heads, Cond.selects RX3 yX3_heads yX3_heads, Cond.code yX3_heads cX3_heads 1 (some .int), Cond.fieldLink RX3 52 "AxleKeeper$Line" "ring" "Z", Cond.fieldLink RX3 48 "AxleKeeper$Line" "sections" "I", Cond.methodLink RX5 210 yX3_save, Cond.instanceMethod yX3_save, Cond.selects RX3 yX3_save yX3_save, Cond.code yX3_save cX3_save 3 none, Cond.fieldLink RX3 56 "AxleKeeper$Line" "ticks" "I", Cond.fieldLink RX3 11 "AxleKeeper$Line" "state" "[I", Cond.fieldLink RX3 15 "AxleKeeper$Line" "wheel" "[I", Cond.fieldLink RX3 18 "AxleKeeper$Line" "count" "[I", Cond.fieldLink RX3 21 "AxleKeeper$Line" "faulty" "[I", Cond.fieldLink RX3 24 "AxleKeeper$Line" "heard" "[I"]
def wsX5_would_r2 : List Cond := [Cond.fieldLink RX3 27 "AxleKeeper$Line" "heardFaulty" "[I", Cond.fieldLink RX3 30 "AxleKeeper$Line" "age" "[I", Cond.fieldLink RX3 33 "AxleKeeper$Line" "sweptOver" "[I", Cond.fieldLink RX3 36 "AxleKeeper$Line" "sum" "[I", Cond.fieldLink RX3 39 "AxleKeeper$Line" "call" "[I", Cond.fieldLink RX3 42 "AxleKeeper$Line" "entered" "[I", Cond.fieldLink RX3 45 "AxleKeeper$Line" "axles" "[I", Cond.methodLink RX3 154 yX3_put, Cond.static yX3_put, Cond.code yX3_put cX3_put 3 (some .int), Cond.methodLink RX3 158 arraycopyName, Cond.native arraycopyName, Cond.static arraycopyName, Cond.initialized "java/lang/System", Cond.methodLink RX5 190 yX3_pass, Cond.instanceMethod yX3_pass, Cond.selects RX3 yX3_pass yX3_pass, Cond.code yX3_pass cX3_pass 3 none, Cond.methodLink RX3 90 yX3_hear, Cond.instanceMethod yX3_hear, Cond.selects RX3 yX3_hear yX3_hear, Cond.code yX3_hear cX3_hear 3 none, Cond.methodLink RX3 104 yX3_receive, Cond.instanceMethod yX3_receive]
def wsX5_would_r3 : List Cond := [Cond.selects RX3 yX3_receive yX3_receive, Cond.code yX3_receive cX3_receive 4 none, Cond.methodLink RX3 73 yX3_rightOf, Cond.instanceMethod yX3_rightOf, Cond.selects RX3 yX3_rightOf yX3_rightOf, Cond.code yX3_rightOf cX3_rightOf 2 (some .int), Cond.methodLink RX3 107 yX3_addToSum, Cond.instanceMethod yX3_addToSum, Cond.selects RX3 yX3_addToSum yX3_addToSum, Cond.code yX3_addToSum cX3_addToSum 3 none, Cond.methodLink RX3 76 yX3_hasSection, Cond.instanceMethod yX3_hasSection, Cond.selects RX3 yX3_hasSection yX3_hasSection, Cond.code yX3_hasSection cX3_hasSection 2 (some .boolean), Cond.methodLink RX3 69 yX3_leftOf, Cond.instanceMethod yX3_leftOf, Cond.selects RX3 yX3_leftOf yX3_leftOf, Cond.code yX3_leftOf cX3_leftOf 2 (some .int), Cond.methodLink RX3 94 yX3_judge, Cond.instanceMethod yX3_judge, Cond.selects RX3 yX3_judge yX3_judge, Cond.code yX3_judge cX3_judge 2 none, Cond.methodLink RX3 111 yX3_hasTrouble, Cond.instanceMethod yX3_hasTrouble]
def wsX5_would_r4 : List Cond := [Cond.selects RX3 yX3_hasTrouble yX3_hasTrouble, Cond.code yX3_hasTrouble cX3_hasTrouble 2 (some .boolean), Cond.methodLink RX3 117 yX3_hasBadHead, Cond.instanceMethod yX3_hasBadHead, Cond.selects RX3 yX3_hasBadHead yX3_hasBadHead, Cond.code yX3_hasBadHead cX3_hasBadHead 2 (some .boolean), Cond.methodLink RX3 120 yX3_isBad, Cond.instanceMethod yX3_isBad, Cond.selects RX3 yX3_isBad yX3_isBad, Cond.code yX3_isBad cX3_isBad 2 (some .boolean), Cond.methodLink RX3 123 yX3_rightHead, Cond.instanceMethod yX3_rightHead, Cond.selects RX3 yX3_rightHead yX3_rightHead, Cond.code yX3_rightHead cX3_rightHead 2 (some .int), Cond.methodLink RX3 114 yX3_judgeSweep, Cond.instanceMethod yX3_judgeSweep, Cond.selects RX3 yX3_judgeSweep yX3_judgeSweep, Cond.code yX3_judgeSweep cX3_judgeSweep 2 none, Cond.methodLink RX3 97 yX3_joins, Cond.instanceMethod yX3_joins, Cond.selects RX3 yX3_joins yX3_joins, Cond.code yX3_joins cX3_joins 4 (some .boolean), Cond.methodLink RX3 100 yX3_judgeJoint, Cond.instanceMethod yX3_judgeJoint]
def wsX5_would_r5 : List Cond := [Cond.selects RX3 yX3_judgeJoint yX3_judgeJoint, Cond.code yX3_judgeJoint cX3_judgeJoint 4 none, Cond.methodLink RX3 126 yX3_joint, Cond.instanceMethod yX3_joint, Cond.selects RX3 yX3_joint yX3_joint, Cond.code yX3_joint cX3_joint 4 (some .int), Cond.methodLink RX3 129 yX3_canHeal, Cond.instanceMethod yX3_canHeal, Cond.selects RX3 yX3_canHeal yX3_canHeal, Cond.code yX3_canHeal cX3_canHeal 4 (some .boolean), Cond.methodLink RX3 133 yX3_heal, Cond.instanceMethod yX3_heal, Cond.selects RX3 yX3_heal yX3_heal, Cond.code yX3_heal cX3_heal 4 none, Cond.methodLink RX5 67 yX3_called, Cond.instanceMethod yX3_called, Cond.selects RX3 yX3_called yX3_called, Cond.code yX3_called cX3_called 4 (some .int), Cond.methodLink RX5 214 yX3_load, Cond.instanceMethod yX3_load, Cond.selects RX3 yX3_load yX3_load, Cond.code yX3_load cX3_load 3 none, Cond.methodLink RX3 164 yX3_get, Cond.static yX3_get]
def wsX5_would_r6 : List Cond := [Cond.code yX3_get cX3_get 3 (some .int)]
def wsX5_would : List Cond := .code yX5_would cX5_would 3 (some .int) :: ((wsX5_would_r1 ++ (wsX5_would_r2 ++ (wsX5_would_r3 ++ (wsX5_would_r4 ++ (wsX5_would_r5 ++ wsX5_would_r6))))) ++ wsX50 ++ wsX30)
def wsX5_write : List Cond := .code yX5_write cX5_write 3 (some .int) :: ([.fieldLink RX5 10 "AxleKeeper" "now" "LAxleKeeper$Line;", .constant RX5 102 (-1000000001), .constant RX5 97 (-1000000002), .fieldLink RX5 26 "AxleKeeper" "book" "LAxleKeeper$Book;", .fieldLink RX5 89 "AxleKeeper$Book" "size" "I", .constant RX5 217 (-1000000004), .methodLink RX5 98 yX3_hasSection, .instanceMethod yX3_hasSection, .selects RX3 yX3_hasSection yX3_hasSection, .initialized RX3, .code yX3_hasSection cX3_hasSection 2 (some .boolean), .fieldLink RX3 48 "AxleKeeper$Line" "sections" "I", .methodLink RX5 218 yX0_add, .instanceMethod yX0_add, .selects RX0 yX0_add yX0_add, .initialized RX0, .code yX0_add cX0_add 3 none, .fieldLink RX0 18 "AxleKeeper$Book" "size" "I", .fieldLink RX0 11 "AxleKeeper$Book" "sectionOf" "[I", .fieldLink RX0 15 "AxleKeeper$Book" "callOf" "[I"] ++ wsX50 ++ wsX00 ++ wsX30)
def wsX5_tear : List Cond := .code yX5_tear cX5_tear 2 (some .int) :: ([.fieldLink RX5 26 "AxleKeeper" "book" "LAxleKeeper$Book;", .fieldLink RX5 89 "AxleKeeper$Book" "size" "I"] ++ wsX50 ++ wsX00)
def wsX5_seed : List Cond := .code yX5_seed cX5_seed 3 (some .int) :: ([.constant RX5 97 (-1000000002), .fieldLink RX5 33 "AxleKeeper" "draws" "LAxleKeeper$Draws;", .fieldLink RX5 221 "AxleKeeper$Draws" "latest" "I"] ++ wsX50 ++ wsX10)
def wsX5_keep_r1 : List Cond := [Cond.fieldLink RX5 40 "AxleKeeper" "images" "LAxleKeeper$Images;", Cond.constant RX5 102 (-1000000001), Cond.fieldLink RX5 10 "AxleKeeper" "now" "LAxleKeeper$Line;", Cond.fieldLink RX5 33 "AxleKeeper" "draws" "LAxleKeeper$Draws;", Cond.fieldLink RX5 19 "AxleKeeper" "past" "LAxleKeeper$Past;", Cond.fieldLink RX5 96 "AxleKeeper$Past" "size" "I", Cond.methodLink RX5 224 yX2_hasPlace, Cond.instanceMethod yX2_hasPlace, Cond.selects RX2 yX2_hasPlace yX2_hasPlace, Cond.initialized RX2, Cond.code yX2_hasPlace cX2_hasPlace 2 (some .boolean), Cond.methodLink RX5 227 yX2_take, Cond.instanceMethod yX2_take, Cond.selects RX2 yX2_take yX2_take, Cond.code yX2_take cX2_take 4 none, Cond.fieldLink RX2 13 "AxleKeeper$Images" "rows" "[[I", Cond.fieldLink RX2 16 "AxleKeeper$Images" "seeds" "[I", Cond.fieldLink RX2 28 "AxleKeeper$Draws" "latest" "I", Cond.fieldLink RX2 20 "AxleKeeper$Images" "kept" "[Z", Cond.methodLink RX2 24 yX3_save, Cond.instanceMethod yX3_save, Cond.selects RX3 yX3_save yX3_save, Cond.initialized RX3, Cond.code yX3_save cX3_save 3 none]
def wsX5_keep_r2 : List Cond := [Cond.fieldLink RX3 48 "AxleKeeper$Line" "sections" "I", Cond.fieldLink RX3 52 "AxleKeeper$Line" "ring" "Z", Cond.fieldLink RX3 56 "AxleKeeper$Line" "ticks" "I", Cond.fieldLink RX3 11 "AxleKeeper$Line" "state" "[I", Cond.fieldLink RX3 15 "AxleKeeper$Line" "wheel" "[I", Cond.fieldLink RX3 18 "AxleKeeper$Line" "count" "[I", Cond.fieldLink RX3 21 "AxleKeeper$Line" "faulty" "[I", Cond.fieldLink RX3 24 "AxleKeeper$Line" "heard" "[I", Cond.fieldLink RX3 27 "AxleKeeper$Line" "heardFaulty" "[I", Cond.fieldLink RX3 30 "AxleKeeper$Line" "age" "[I", Cond.fieldLink RX3 33 "AxleKeeper$Line" "sweptOver" "[I", Cond.fieldLink RX3 36 "AxleKeeper$Line" "sum" "[I", Cond.fieldLink RX3 39 "AxleKeeper$Line" "call" "[I", Cond.fieldLink RX3 42 "AxleKeeper$Line" "entered" "[I", Cond.fieldLink RX3 45 "AxleKeeper$Line" "axles" "[I", Cond.methodLink RX3 154 yX3_put, Cond.static yX3_put, Cond.code yX3_put cX3_put 3 (some .int), Cond.methodLink RX3 158 arraycopyName, Cond.native arraycopyName, Cond.static arraycopyName, Cond.initialized "java/lang/System"]
def wsX5_keep : List Cond := .code yX5_keep cX5_keep 2 (some .int) :: ((wsX5_keep_r1 ++ wsX5_keep_r2) ++ wsX50 ++ wsX40 ++ wsX20 ++ wsX10 ++ wsX30)
def wsX5_goBack_r1 : List Cond := [Cond.fieldLink RX5 40 "AxleKeeper" "images" "LAxleKeeper$Images;", Cond.constant RX5 102 (-1000000001), Cond.fieldLink RX5 231 "AxleKeeper$Images" "kept" "[Z", Cond.constant RX5 167 (-1000000003), Cond.fieldLink RX5 10 "AxleKeeper" "now" "LAxleKeeper$Line;", Cond.fieldLink RX5 33 "AxleKeeper" "draws" "LAxleKeeper$Draws;", Cond.fieldLink RX5 19 "AxleKeeper" "past" "LAxleKeeper$Past;", Cond.fieldLink RX5 96 "AxleKeeper$Past" "size" "I", Cond.methodLink RX5 224 yX2_hasPlace, Cond.instanceMethod yX2_hasPlace, Cond.selects RX2 yX2_hasPlace yX2_hasPlace, Cond.initialized RX2, Cond.code yX2_hasPlace cX2_hasPlace 2 (some .boolean), Cond.methodLink RX5 235 yX2_giveBack, Cond.instanceMethod yX2_giveBack, Cond.selects RX2 yX2_giveBack yX2_giveBack, Cond.code yX2_giveBack cX2_giveBack 4 none, Cond.fieldLink RX2 13 "AxleKeeper$Images" "rows" "[[I", Cond.fieldLink RX2 16 "AxleKeeper$Images" "seeds" "[I", Cond.fieldLink RX2 28 "AxleKeeper$Draws" "latest" "I", Cond.methodLink RX2 34 yX3_load, Cond.instanceMethod yX3_load, Cond.selects RX3 yX3_load yX3_load, Cond.initialized RX3]
def wsX5_goBack_r2 : List Cond := [Cond.code yX3_load cX3_load 3 none, Cond.fieldLink RX3 48 "AxleKeeper$Line" "sections" "I", Cond.fieldLink RX3 52 "AxleKeeper$Line" "ring" "Z", Cond.fieldLink RX3 56 "AxleKeeper$Line" "ticks" "I", Cond.fieldLink RX3 11 "AxleKeeper$Line" "state" "[I", Cond.fieldLink RX3 15 "AxleKeeper$Line" "wheel" "[I", Cond.fieldLink RX3 18 "AxleKeeper$Line" "count" "[I", Cond.fieldLink RX3 21 "AxleKeeper$Line" "faulty" "[I", Cond.fieldLink RX3 24 "AxleKeeper$Line" "heard" "[I", Cond.fieldLink RX3 27 "AxleKeeper$Line" "heardFaulty" "[I", Cond.fieldLink RX3 30 "AxleKeeper$Line" "age" "[I", Cond.fieldLink RX3 33 "AxleKeeper$Line" "sweptOver" "[I", Cond.fieldLink RX3 36 "AxleKeeper$Line" "sum" "[I", Cond.fieldLink RX3 39 "AxleKeeper$Line" "call" "[I", Cond.fieldLink RX3 42 "AxleKeeper$Line" "entered" "[I", Cond.fieldLink RX3 45 "AxleKeeper$Line" "axles" "[I", Cond.methodLink RX3 164 yX3_get, Cond.static yX3_get, Cond.code yX3_get cX3_get 3 (some .int), Cond.methodLink RX3 158 arraycopyName, Cond.native arraycopyName, Cond.static arraycopyName, Cond.initialized "java/lang/System"]
def wsX5_goBack : List Cond := .code yX5_goBack cX5_goBack 2 (some .int) :: ((wsX5_goBack_r1 ++ wsX5_goBack_r2) ++ wsX50 ++ wsX20 ++ wsX40 ++ wsX10 ++ wsX30)
def wsX6_init : List Cond := .code yX6_init cX6_init 1 none :: ([.methodLink RX6 1 objectInit, .instanceMethod objectInit, .code objectInit ⟨#[0xb1]⟩ 1 none, .arrayClass .int, .fieldLink RX6 7 "AxleKeeperModel" "w" "[I", .fieldLink RX6 13 "AxleKeeperModel" "bookOf" "[I", .fieldLink RX6 16 "AxleKeeperModel" "bookCall" "[I"] ++ wsX60)
def wsX6_in : List Cond := .code yX6_in cX6_in 3 (some .boolean) :: ([])
def wsX6_has : List Cond := .code yX6_has cX6_has 2 (some .boolean) :: ([])
def wsX6_copyRow : List Cond := .code yX6_copyRow cX6_copyRow 4 none :: ([.fieldLink RX6 7 "AxleKeeperModel" "w" "[I"] ++ wsX60)
def wsX6_heads : List Cond := .code yX6_heads cX6_heads 1 (some .int) :: ([.fieldLink RX6 7 "AxleKeeperModel" "w" "[I"] ++ wsX60)
def wsX6_leftOf : List Cond := .code yX6_leftOf cX6_leftOf 2 (some .int) :: ([.fieldLink RX6 7 "AxleKeeperModel" "w" "[I"] ++ wsX60)
def wsX6_rightOf : List Cond := .code yX6_rightOf cX6_rightOf 2 (some .int) :: ([.fieldLink RX6 7 "AxleKeeperModel" "w" "[I"] ++ wsX60)
def wsX6_rightHead : List Cond := .code yX6_rightHead cX6_rightHead 2 (some .int) :: ([.fieldLink RX6 7 "AxleKeeperModel" "w" "[I"] ++ wsX60)
def wsX6_isSection : List Cond := .code yX6_isSection cX6_isSection 2 (some .boolean) :: ([.fieldLink RX6 7 "AxleKeeperModel" "w" "[I", .methodLink RX6 19 yX6_in, .static yX6_in, .initialized RX6, .code yX6_in cX6_in 3 (some .boolean)] ++ wsX60)
def wsX6_isHead : List Cond := .code yX6_isHead cX6_isHead 2 (some .boolean) :: ([.methodLink RX6 23 yX6_heads, .instanceMethod yX6_heads, .selects RX6 yX6_heads yX6_heads, .initialized RX6, .code yX6_heads cX6_heads 1 (some .int), .fieldLink RX6 7 "AxleKeeperModel" "w" "[I", .methodLink RX6 19 yX6_in, .static yX6_in, .code yX6_in cX6_in 3 (some .boolean)] ++ wsX60)
def wsX6_isSet : List Cond := .code yX6_isSet cX6_isSet 2 (some .boolean) :: ([.methodLink RX6 23 yX6_heads, .instanceMethod yX6_heads, .selects RX6 yX6_heads yX6_heads, .initialized RX6, .code yX6_heads cX6_heads 1 (some .int), .fieldLink RX6 7 "AxleKeeperModel" "w" "[I", .methodLink RX6 19 yX6_in, .static yX6_in, .code yX6_in cX6_in 3 (some .boolean)] ++ wsX60)
def wsX6_hear : List Cond := .code yX6_hear cX6_hear 6 none :: ([.fieldLink RX6 7 "AxleKeeperModel" "w" "[I", .methodLink RX6 27 yX6_rightOf, .instanceMethod yX6_rightOf, .selects RX6 yX6_rightOf yX6_rightOf, .initialized RX6, .code yX6_rightOf cX6_rightOf 2 (some .int), .methodLink RX6 31 yX6_leftOf, .instanceMethod yX6_leftOf, .selects RX6 yX6_leftOf yX6_leftOf, .code yX6_leftOf cX6_leftOf 2 (some .int)] ++ wsX60)
def wsX6_isBad : List Cond := .code yX6_isBad cX6_isBad 3 (some .boolean) :: ([.fieldLink RX6 7 "AxleKeeperModel" "w" "[I"] ++ wsX60)
def wsX6_hasBad : List Cond := .code yX6_hasBad cX6_hasBad 3 (some .boolean) :: ([.methodLink RX6 34 yX6_isBad, .instanceMethod yX6_isBad, .selects RX6 yX6_isBad yX6_isBad, .initialized RX6, .code yX6_isBad cX6_isBad 3 (some .boolean), .fieldLink RX6 7 "AxleKeeperModel" "w" "[I", .methodLink RX6 38 yX6_rightHead, .instanceMethod yX6_rightHead, .selects RX6 yX6_rightHead yX6_rightHead, .code yX6_rightHead cX6_rightHead 2 (some .int)] ++ wsX60)
def wsX6_isTrouble : List Cond := .code yX6_isTrouble cX6_isTrouble 3 (some .boolean) :: ([.fieldLink RX6 7 "AxleKeeperModel" "w" "[I", .methodLink RX6 41 yX6_hasBad, .instanceMethod yX6_hasBad, .selects RX6 yX6_hasBad yX6_hasBad, .initialized RX6, .code yX6_hasBad cX6_hasBad 3 (some .boolean), .methodLink RX6 34 yX6_isBad, .instanceMethod yX6_isBad, .selects RX6 yX6_isBad yX6_isBad, .code yX6_isBad cX6_isBad 3 (some .boolean), .methodLink RX6 38 yX6_rightHead, .instanceMethod yX6_rightHead, .selects RX6 yX6_rightHead yX6_rightHead, .code yX6_rightHead cX6_rightHead 2 (some .int)] ++ wsX60)
def wsX6_heal : List Cond := .code yX6_heal cX6_heal 3 none :: ([.fieldLink RX6 7 "AxleKeeperModel" "w" "[I"] ++ wsX60)
def wsX6_judgeOne : List Cond := .code yX6_judgeOne cX6_judgeOne 5 none :: ([.fieldLink RX6 7 "AxleKeeperModel" "w" "[I", .methodLink RX6 44 yX6_isTrouble, .instanceMethod yX6_isTrouble, .selects RX6 yX6_isTrouble yX6_isTrouble, .initialized RX6, .code yX6_isTrouble cX6_isTrouble 3 (some .boolean), .methodLink RX6 41 yX6_hasBad, .instanceMethod yX6_hasBad, .selects RX6 yX6_hasBad yX6_hasBad, .code yX6_hasBad cX6_hasBad 3 (some .boolean), .methodLink RX6 34 yX6_isBad, .instanceMethod yX6_isBad, .selects RX6 yX6_isBad yX6_isBad, .code yX6_isBad cX6_isBad 3 (some .boolean), .methodLink RX6 38 yX6_rightHead, .instanceMethod yX6_rightHead, .selects RX6 yX6_rightHead yX6_rightHead, .code yX6_rightHead cX6_rightHead 2 (some .int), .methodLink RX6 47 yX6_heal, .instanceMethod yX6_heal, .selects RX6 yX6_heal yX6_heal, .code yX6_heal cX6_heal 3 none] ++ wsX60)
def wsX6_isJoint : List Cond := .code yX6_isJoint cX6_isJoint 2 (some .boolean) :: ([.methodLink RX6 31 yX6_leftOf, .instanceMethod yX6_leftOf, .selects RX6 yX6_leftOf yX6_leftOf, .initialized RX6, .code yX6_leftOf cX6_leftOf 2 (some .int), .fieldLink RX6 7 "AxleKeeperModel" "w" "[I", .methodLink RX6 27 yX6_rightOf, .instanceMethod yX6_rightOf, .selects RX6 yX6_rightOf yX6_rightOf, .code yX6_rightOf cX6_rightOf 2 (some .int)] ++ wsX60)
def wsX6_sweepOver_r1 : List Cond := [Cond.fieldLink RX6 7 "AxleKeeperModel" "w" "[I", Cond.methodLink RX6 31 yX6_leftOf, Cond.instanceMethod yX6_leftOf, Cond.selects RX6 yX6_leftOf yX6_leftOf, Cond.initialized RX6, Cond.code yX6_leftOf cX6_leftOf 2 (some .int), Cond.methodLink RX6 27 yX6_rightOf, Cond.instanceMethod yX6_rightOf, Cond.selects RX6 yX6_rightOf yX6_rightOf, Cond.code yX6_rightOf cX6_rightOf 2 (some .int), Cond.methodLink RX6 41 yX6_hasBad, Cond.instanceMethod yX6_hasBad, Cond.selects RX6 yX6_hasBad yX6_hasBad, Cond.code yX6_hasBad cX6_hasBad 3 (some .boolean), Cond.methodLink RX6 34 yX6_isBad, Cond.instanceMethod yX6_isBad, Cond.selects RX6 yX6_isBad yX6_isBad, Cond.code yX6_isBad cX6_isBad 3 (some .boolean), Cond.methodLink RX6 38 yX6_rightHead, Cond.instanceMethod yX6_rightHead, Cond.selects RX6 yX6_rightHead yX6_rightHead, Cond.code yX6_rightHead cX6_rightHead 2 (some .int), Cond.methodLink RX6 47 yX6_heal, Cond.instanceMethod yX6_heal]
def wsX6_sweepOver_r2 : List Cond := [Cond.selects RX6 yX6_heal yX6_heal, Cond.code yX6_heal cX6_heal 3 none]
def wsX6_sweepOver : List Cond := .code yX6_sweepOver cX6_sweepOver 6 none :: ((wsX6_sweepOver_r1 ++ wsX6_sweepOver_r2) ++ wsX60)
def wsX6_tickIn_r1 : List Cond := [Cond.fieldLink RX6 7 "AxleKeeperModel" "w" "[I", Cond.methodLink RX6 23 yX6_heads, Cond.instanceMethod yX6_heads, Cond.selects RX6 yX6_heads yX6_heads, Cond.initialized RX6, Cond.code yX6_heads cX6_heads 1 (some .int), Cond.methodLink RX6 51 yX6_has, Cond.static yX6_has, Cond.code yX6_has cX6_has 2 (some .boolean), Cond.methodLink RX6 54 yX6_hear, Cond.instanceMethod yX6_hear, Cond.selects RX6 yX6_hear yX6_hear, Cond.code yX6_hear cX6_hear 6 none, Cond.methodLink RX6 27 yX6_rightOf, Cond.instanceMethod yX6_rightOf, Cond.selects RX6 yX6_rightOf yX6_rightOf, Cond.code yX6_rightOf cX6_rightOf 2 (some .int), Cond.methodLink RX6 31 yX6_leftOf, Cond.instanceMethod yX6_leftOf, Cond.selects RX6 yX6_leftOf yX6_leftOf, Cond.code yX6_leftOf cX6_leftOf 2 (some .int), Cond.methodLink RX6 58 yX6_judgeOne, Cond.instanceMethod yX6_judgeOne, Cond.selects RX6 yX6_judgeOne yX6_judgeOne]
def wsX6_tickIn_r2 : List Cond := [Cond.code yX6_judgeOne cX6_judgeOne 5 none, Cond.methodLink RX6 44 yX6_isTrouble, Cond.instanceMethod yX6_isTrouble, Cond.selects RX6 yX6_isTrouble yX6_isTrouble, Cond.code yX6_isTrouble cX6_isTrouble 3 (some .boolean), Cond.methodLink RX6 41 yX6_hasBad, Cond.instanceMethod yX6_hasBad, Cond.selects RX6 yX6_hasBad yX6_hasBad, Cond.code yX6_hasBad cX6_hasBad 3 (some .boolean), Cond.methodLink RX6 34 yX6_isBad, Cond.instanceMethod yX6_isBad, Cond.selects RX6 yX6_isBad yX6_isBad, Cond.code yX6_isBad cX6_isBad 3 (some .boolean), Cond.methodLink RX6 38 yX6_rightHead, Cond.instanceMethod yX6_rightHead, Cond.selects RX6 yX6_rightHead yX6_rightHead, Cond.code yX6_rightHead cX6_rightHead 2 (some .int), Cond.methodLink RX6 47 yX6_heal, Cond.instanceMethod yX6_heal, Cond.selects RX6 yX6_heal yX6_heal, Cond.code yX6_heal cX6_heal 3 none, Cond.methodLink RX6 61 yX6_isJoint, Cond.instanceMethod yX6_isJoint, Cond.selects RX6 yX6_isJoint yX6_isJoint]
def wsX6_tickIn_r3 : List Cond := [Cond.code yX6_isJoint cX6_isJoint 2 (some .boolean), Cond.methodLink RX6 65 yX6_sweepOver, Cond.instanceMethod yX6_sweepOver, Cond.selects RX6 yX6_sweepOver yX6_sweepOver, Cond.code yX6_sweepOver cX6_sweepOver 6 none]
def wsX6_tickIn : List Cond := .code yX6_tickIn cX6_tickIn 4 none :: ((wsX6_tickIn_r1 ++ (wsX6_tickIn_r2 ++ wsX6_tickIn_r3)) ++ wsX60)
def wsX6_called : List Cond := .code yX6_called cX6_called 5 (some .int) :: ([.fieldLink RX6 7 "AxleKeeperModel" "w" "[I"] ++ wsX60)
def wsX6_leavesNone : List Cond := .code yX6_leavesNone cX6_leavesNone 6 (some .boolean) :: ([.fieldLink RX6 7 "AxleKeeperModel" "w" "[I", .methodLink RX6 27 yX6_rightOf, .instanceMethod yX6_rightOf, .selects RX6 yX6_rightOf yX6_rightOf, .initialized RX6, .code yX6_rightOf cX6_rightOf 2 (some .int), .methodLink RX6 31 yX6_leftOf, .instanceMethod yX6_leftOf, .selects RX6 yX6_leftOf yX6_leftOf, .code yX6_leftOf cX6_leftOf 2 (some .int)] ++ wsX60)
def wsX6_byHowMuch : List Cond := .code yX6_byHowMuch cX6_byHowMuch 5 (some .int) :: ([.fieldLink RX6 7 "AxleKeeperModel" "w" "[I", .methodLink RX6 68 yX6_leavesNone, .instanceMethod yX6_leavesNone, .selects RX6 yX6_leavesNone yX6_leavesNone, .initialized RX6, .code yX6_leavesNone cX6_leavesNone 6 (some .boolean), .methodLink RX6 27 yX6_rightOf, .instanceMethod yX6_rightOf, .selects RX6 yX6_rightOf yX6_rightOf, .code yX6_rightOf cX6_rightOf 2 (some .int), .methodLink RX6 31 yX6_leftOf, .instanceMethod yX6_leftOf, .selects RX6 yX6_leftOf yX6_leftOf, .code yX6_leftOf cX6_leftOf 2 (some .int)] ++ wsX60)
def wsX6_setOf : List Cond := .code yX6_setOf cX6_setOf 6 (some .int) :: ([.fieldLink RX6 7 "AxleKeeperModel" "w" "[I"] ++ wsX60)
def wsX6_headSet : List Cond := .code yX6_headSet cX6_headSet 5 (some .int) :: ([.fieldLink RX6 7 "AxleKeeperModel" "w" "[I", .methodLink RX6 23 yX6_heads, .instanceMethod yX6_heads, .selects RX6 yX6_heads yX6_heads, .initialized RX6, .code yX6_heads cX6_heads 1 (some .int), .methodLink RX6 71 yX6_byHowMuch, .instanceMethod yX6_byHowMuch, .selects RX6 yX6_byHowMuch yX6_byHowMuch, .code yX6_byHowMuch cX6_byHowMuch 5 (some .int), .methodLink RX6 68 yX6_leavesNone, .instanceMethod yX6_leavesNone, .selects RX6 yX6_leavesNone yX6_leavesNone, .code yX6_leavesNone cX6_leavesNone 6 (some .boolean), .methodLink RX6 27 yX6_rightOf, .instanceMethod yX6_rightOf, .selects RX6 yX6_rightOf yX6_rightOf, .code yX6_rightOf cX6_rightOf 2 (some .int), .methodLink RX6 31 yX6_leftOf, .instanceMethod yX6_leftOf, .selects RX6 yX6_leftOf yX6_leftOf, .code yX6_leftOf cX6_leftOf 2 (some .int)] ++ wsX60)
def wsX6_allOf : List Cond := .code yX6_allOf cX6_allOf 4 (some .int) :: ([.fieldLink RX6 7 "AxleKeeperModel" "w" "[I"] ++ wsX60)
def wsX6_wrongEntry : List Cond := .code yX6_wrongEntry cX6_wrongEntry 2 (some .int) :: ([.fieldLink RX6 74 "AxleKeeperModel" "written" "I", .fieldLink RX6 13 "AxleKeeperModel" "bookOf" "[I", .fieldLink RX6 7 "AxleKeeperModel" "w" "[I", .fieldLink RX6 16 "AxleKeeperModel" "bookCall" "[I", .methodLink RX6 78 yX6_isSection, .instanceMethod yX6_isSection, .selects RX6 yX6_isSection yX6_isSection, .initialized RX6, .code yX6_isSection cX6_isSection 2 (some .boolean), .methodLink RX6 19 yX6_in, .static yX6_in, .code yX6_in cX6_in 3 (some .boolean)] ++ wsX60)
def wsX6_told_r1 : List Cond := [Cond.fieldLink RX6 7 "AxleKeeperModel" "w" "[I", Cond.fieldLink RX6 74 "AxleKeeperModel" "written" "I", Cond.fieldLink RX6 98 "AxleKeeperModel" "known" "I", Cond.constant RX6 101 (-1000000002), Cond.methodLink RX6 23 yX6_heads, Cond.instanceMethod yX6_heads, Cond.selects RX6 yX6_heads yX6_heads, Cond.initialized RX6, Cond.code yX6_heads cX6_heads 1 (some .int), Cond.methodLink RX6 81 yX6_called, Cond.instanceMethod yX6_called, Cond.selects RX6 yX6_called yX6_called, Cond.code yX6_called cX6_called 5 (some .int), Cond.methodLink RX6 85 yX6_setOf, Cond.instanceMethod yX6_setOf, Cond.selects RX6 yX6_setOf yX6_setOf, Cond.code yX6_setOf cX6_setOf 6 (some .int), Cond.methodLink RX6 88 yX6_headSet, Cond.instanceMethod yX6_headSet, Cond.selects RX6 yX6_headSet yX6_headSet, Cond.code yX6_headSet cX6_headSet 5 (some .int), Cond.methodLink RX6 71 yX6_byHowMuch, Cond.instanceMethod yX6_byHowMuch, Cond.selects RX6 yX6_byHowMuch yX6_byHowMuch]
def wsX6_told_r2 : List Cond := [Cond.code yX6_byHowMuch cX6_byHowMuch 5 (some .int), Cond.methodLink RX6 68 yX6_leavesNone, Cond.instanceMethod yX6_leavesNone, Cond.selects RX6 yX6_leavesNone yX6_leavesNone, Cond.code yX6_leavesNone cX6_leavesNone 6 (some .boolean), Cond.methodLink RX6 27 yX6_rightOf, Cond.instanceMethod yX6_rightOf, Cond.selects RX6 yX6_rightOf yX6_rightOf, Cond.code yX6_rightOf cX6_rightOf 2 (some .int), Cond.methodLink RX6 31 yX6_leftOf, Cond.instanceMethod yX6_leftOf, Cond.selects RX6 yX6_leftOf yX6_leftOf, Cond.code yX6_leftOf cX6_leftOf 2 (some .int), Cond.methodLink RX6 92 yX6_allOf, Cond.instanceMethod yX6_allOf, Cond.selects RX6 yX6_allOf yX6_allOf, Cond.code yX6_allOf cX6_allOf 4 (some .int), Cond.methodLink RX6 95 yX6_wrongEntry, Cond.instanceMethod yX6_wrongEntry, Cond.selects RX6 yX6_wrongEntry yX6_wrongEntry, Cond.code yX6_wrongEntry cX6_wrongEntry 2 (some .int), Cond.fieldLink RX6 13 "AxleKeeperModel" "bookOf" "[I", Cond.fieldLink RX6 16 "AxleKeeperModel" "bookCall" "[I", Cond.methodLink RX6 78 yX6_isSection]
def wsX6_told_r3 : List Cond := [Cond.instanceMethod yX6_isSection, Cond.selects RX6 yX6_isSection yX6_isSection, Cond.code yX6_isSection cX6_isSection 2 (some .boolean), Cond.methodLink RX6 19 yX6_in, Cond.static yX6_in, Cond.code yX6_in cX6_in 3 (some .boolean)]
def wsX6_told : List Cond := .code yX6_told cX6_told 2 (some .int) :: ((wsX6_told_r1 ++ (wsX6_told_r2 ++ wsX6_told_r3)) ++ wsX60)
def wsX6_leftTelegrams : List Cond := .code yX6_leftTelegrams cX6_leftTelegrams 4 (some .int) :: ([.fieldLink RX6 7 "AxleKeeperModel" "w" "[I", .methodLink RX6 38 yX6_rightHead, .instanceMethod yX6_rightHead, .selects RX6 yX6_rightHead yX6_rightHead, .initialized RX6, .code yX6_rightHead cX6_rightHead 2 (some .int)] ++ wsX60)
def wsX6_run : List Cond := .code yX6_run cX6_run 4 (some .int) :: ([.fieldLink RX6 7 "AxleKeeperModel" "w" "[I"] ++ wsX60)
def wsX6_section_r1 : List Cond := [Cond.constant RX6 102 (-1000000001), Cond.fieldLink RX6 7 "AxleKeeperModel" "w" "[I", Cond.constant RX6 101 (-1000000002), Cond.methodLink RX6 78 yX6_isSection, Cond.instanceMethod yX6_isSection, Cond.selects RX6 yX6_isSection yX6_isSection, Cond.initialized RX6, Cond.code yX6_isSection cX6_isSection 2 (some .boolean), Cond.methodLink RX6 19 yX6_in, Cond.static yX6_in, Cond.code yX6_in cX6_in 3 (some .boolean), Cond.methodLink RX6 44 yX6_isTrouble, Cond.instanceMethod yX6_isTrouble, Cond.selects RX6 yX6_isTrouble yX6_isTrouble, Cond.code yX6_isTrouble cX6_isTrouble 3 (some .boolean), Cond.methodLink RX6 41 yX6_hasBad, Cond.instanceMethod yX6_hasBad, Cond.selects RX6 yX6_hasBad yX6_hasBad, Cond.code yX6_hasBad cX6_hasBad 3 (some .boolean), Cond.methodLink RX6 34 yX6_isBad, Cond.instanceMethod yX6_isBad, Cond.selects RX6 yX6_isBad yX6_isBad, Cond.code yX6_isBad cX6_isBad 3 (some .boolean), Cond.methodLink RX6 38 yX6_rightHead]
def wsX6_section_r2 : List Cond := [Cond.instanceMethod yX6_rightHead, Cond.selects RX6 yX6_rightHead yX6_rightHead, Cond.code yX6_rightHead cX6_rightHead 2 (some .int), Cond.methodLink RX6 103 yX6_leftTelegrams, Cond.instanceMethod yX6_leftTelegrams, Cond.selects RX6 yX6_leftTelegrams yX6_leftTelegrams, Cond.code yX6_leftTelegrams cX6_leftTelegrams 4 (some .int), Cond.methodLink RX6 106 yX6_run, Cond.instanceMethod yX6_run, Cond.selects RX6 yX6_run yX6_run, Cond.code yX6_run cX6_run 4 (some .int)]
def wsX6_section : List Cond := .code yX6_section cX6_section 3 (some .int) :: ((wsX6_section_r1 ++ wsX6_section_r2) ++ wsX60)
def wsX6_joint : List Cond := .code yX6_joint cX6_joint 2 (some .int) :: ([.fieldLink RX6 7 "AxleKeeperModel" "w" "[I", .methodLink RX6 61 yX6_isJoint, .instanceMethod yX6_isJoint, .selects RX6 yX6_isJoint yX6_isJoint, .initialized RX6, .code yX6_isJoint cX6_isJoint 2 (some .boolean), .methodLink RX6 31 yX6_leftOf, .instanceMethod yX6_leftOf, .selects RX6 yX6_leftOf yX6_leftOf, .code yX6_leftOf cX6_leftOf 2 (some .int), .methodLink RX6 27 yX6_rightOf, .instanceMethod yX6_rightOf, .selects RX6 yX6_rightOf yX6_rightOf, .code yX6_rightOf cX6_rightOf 2 (some .int)] ++ wsX60)
def wsX6_head_r1 : List Cond := [Cond.constant RX6 102 (-1000000001), Cond.fieldLink RX6 7 "AxleKeeperModel" "w" "[I", Cond.constant RX6 101 (-1000000002), Cond.methodLink RX6 109 yX6_isHead, Cond.instanceMethod yX6_isHead, Cond.selects RX6 yX6_isHead yX6_isHead, Cond.initialized RX6, Cond.code yX6_isHead cX6_isHead 2 (some .boolean), Cond.methodLink RX6 23 yX6_heads, Cond.instanceMethod yX6_heads, Cond.selects RX6 yX6_heads yX6_heads, Cond.code yX6_heads cX6_heads 1 (some .int), Cond.methodLink RX6 19 yX6_in, Cond.static yX6_in, Cond.code yX6_in cX6_in 3 (some .boolean), Cond.methodLink RX6 112 yX6_joint, Cond.instanceMethod yX6_joint, Cond.selects RX6 yX6_joint yX6_joint, Cond.code yX6_joint cX6_joint 2 (some .int), Cond.methodLink RX6 61 yX6_isJoint, Cond.instanceMethod yX6_isJoint, Cond.selects RX6 yX6_isJoint yX6_isJoint, Cond.code yX6_isJoint cX6_isJoint 2 (some .boolean), Cond.methodLink RX6 31 yX6_leftOf]
def wsX6_head_r2 : List Cond := [Cond.instanceMethod yX6_leftOf, Cond.selects RX6 yX6_leftOf yX6_leftOf, Cond.code yX6_leftOf cX6_leftOf 2 (some .int), Cond.methodLink RX6 27 yX6_rightOf, Cond.instanceMethod yX6_rightOf, Cond.selects RX6 yX6_rightOf yX6_rightOf, Cond.code yX6_rightOf cX6_rightOf 2 (some .int), Cond.methodLink RX6 71 yX6_byHowMuch, Cond.instanceMethod yX6_byHowMuch, Cond.selects RX6 yX6_byHowMuch yX6_byHowMuch, Cond.code yX6_byHowMuch cX6_byHowMuch 5 (some .int), Cond.methodLink RX6 68 yX6_leavesNone, Cond.instanceMethod yX6_leavesNone, Cond.selects RX6 yX6_leavesNone yX6_leavesNone, Cond.code yX6_leavesNone cX6_leavesNone 6 (some .boolean)]
def wsX6_head : List Cond := .code yX6_head cX6_head 3 (some .int) :: ((wsX6_head_r1 ++ wsX6_head_r2) ++ wsX60)
def wsX6_remember : List Cond := .code yX6_remember cX6_remember 2 none :: ([.fieldLink RX6 98 "AxleKeeperModel" "known" "I", .methodLink RX6 115 yX6_copyRow, .instanceMethod yX6_copyRow, .selects RX6 yX6_copyRow yX6_copyRow, .initialized RX6, .code yX6_copyRow cX6_copyRow 4 none, .fieldLink RX6 7 "AxleKeeperModel" "w" "[I"] ++ wsX60)
def wsX6_line : List Cond := .code yX6_line cX6_line 4 (some .int) :: ([.constant RX6 101 (-1000000002), .fieldLink RX6 7 "AxleKeeperModel" "w" "[I", .fieldLink RX6 74 "AxleKeeperModel" "written" "I", .methodLink RX6 19 yX6_in, .static yX6_in, .initialized RX6, .code yX6_in cX6_in 3 (some .boolean), .methodLink RX6 118 yX6_remember, .instanceMethod yX6_remember, .selects RX6 yX6_remember yX6_remember, .code yX6_remember cX6_remember 2 none, .fieldLink RX6 98 "AxleKeeperModel" "known" "I", .methodLink RX6 115 yX6_copyRow, .instanceMethod yX6_copyRow, .selects RX6 yX6_copyRow yX6_copyRow, .code yX6_copyRow cX6_copyRow 4 none, .methodLink RX6 23 yX6_heads, .instanceMethod yX6_heads, .selects RX6 yX6_heads yX6_heads, .code yX6_heads cX6_heads 1 (some .int)] ++ wsX60)
def wsX6_placeOf : List Cond := .code yX6_placeOf cX6_placeOf 1 (some .int) :: ([])
def wsX6_feelOne : List Cond := .code yX6_feelOne cX6_feelOne 5 (some .int) :: ([.fieldLink RX6 7 "AxleKeeperModel" "w" "[I", .methodLink RX6 121 yX6_placeOf, .static yX6_placeOf, .initialized RX6, .code yX6_placeOf cX6_placeOf 1 (some .int)] ++ wsX60)
def wsX6_feel_r1 : List Cond := [Cond.constant RX6 102 (-1000000001), Cond.constant RX6 101 (-1000000002), Cond.fieldLink RX6 7 "AxleKeeperModel" "w" "[I", Cond.constant RX6 124 (-1000000003), Cond.methodLink RX6 109 yX6_isHead, Cond.instanceMethod yX6_isHead, Cond.selects RX6 yX6_isHead yX6_isHead, Cond.initialized RX6, Cond.code yX6_isHead cX6_isHead 2 (some .boolean), Cond.methodLink RX6 23 yX6_heads, Cond.instanceMethod yX6_heads, Cond.selects RX6 yX6_heads yX6_heads, Cond.code yX6_heads cX6_heads 1 (some .int), Cond.methodLink RX6 19 yX6_in, Cond.static yX6_in, Cond.code yX6_in cX6_in 3 (some .boolean), Cond.methodLink RX6 118 yX6_remember, Cond.instanceMethod yX6_remember, Cond.selects RX6 yX6_remember yX6_remember, Cond.code yX6_remember cX6_remember 2 none, Cond.fieldLink RX6 98 "AxleKeeperModel" "known" "I", Cond.methodLink RX6 115 yX6_copyRow, Cond.instanceMethod yX6_copyRow, Cond.selects RX6 yX6_copyRow yX6_copyRow]
def wsX6_feel_r2 : List Cond := [Cond.code yX6_copyRow cX6_copyRow 4 none, Cond.methodLink RX6 125 yX6_feelOne, Cond.instanceMethod yX6_feelOne, Cond.selects RX6 yX6_feelOne yX6_feelOne, Cond.code yX6_feelOne cX6_feelOne 5 (some .int), Cond.methodLink RX6 121 yX6_placeOf, Cond.static yX6_placeOf, Cond.code yX6_placeOf cX6_placeOf 1 (some .int)]
def wsX6_feel : List Cond := .code yX6_feel cX6_feel 3 (some .int) :: ((wsX6_feel_r1 ++ wsX6_feel_r2) ++ wsX60)
def wsX6_canGo : List Cond := .code yX6_canGo cX6_canGo 5 (some .boolean) :: ([.fieldLink RX6 7 "AxleKeeperModel" "w" "[I", .methodLink RX6 31 yX6_leftOf, .instanceMethod yX6_leftOf, .selects RX6 yX6_leftOf yX6_leftOf, .initialized RX6, .code yX6_leftOf cX6_leftOf 2 (some .int), .methodLink RX6 27 yX6_rightOf, .instanceMethod yX6_rightOf, .selects RX6 yX6_rightOf yX6_rightOf, .code yX6_rightOf cX6_rightOf 2 (some .int)] ++ wsX60)
def wsX6_feels : List Cond := .code yX6_feels cX6_feels 2 (some .boolean) :: ([.fieldLink RX6 7 "AxleKeeperModel" "w" "[I"] ++ wsX60)
def wsX6_goOver : List Cond := .code yX6_goOver cX6_goOver 7 (some .int) :: ([.fieldLink RX6 7 "AxleKeeperModel" "w" "[I", .methodLink RX6 31 yX6_leftOf, .instanceMethod yX6_leftOf, .selects RX6 yX6_leftOf yX6_leftOf, .initialized RX6, .code yX6_leftOf cX6_leftOf 2 (some .int), .methodLink RX6 27 yX6_rightOf, .instanceMethod yX6_rightOf, .selects RX6 yX6_rightOf yX6_rightOf, .code yX6_rightOf cX6_rightOf 2 (some .int)] ++ wsX60)
def wsX6_goes_r1 : List Cond := [Cond.constant RX6 102 (-1000000001), Cond.constant RX6 101 (-1000000002), Cond.constant RX6 124 (-1000000003), Cond.methodLink RX6 109 yX6_isHead, Cond.instanceMethod yX6_isHead, Cond.selects RX6 yX6_isHead yX6_isHead, Cond.initialized RX6, Cond.code yX6_isHead cX6_isHead 2 (some .boolean), Cond.methodLink RX6 23 yX6_heads, Cond.instanceMethod yX6_heads, Cond.selects RX6 yX6_heads yX6_heads, Cond.code yX6_heads cX6_heads 1 (some .int), Cond.fieldLink RX6 7 "AxleKeeperModel" "w" "[I", Cond.methodLink RX6 19 yX6_in, Cond.static yX6_in, Cond.code yX6_in cX6_in 3 (some .boolean), Cond.methodLink RX6 128 yX6_canGo, Cond.instanceMethod yX6_canGo, Cond.selects RX6 yX6_canGo yX6_canGo, Cond.code yX6_canGo cX6_canGo 5 (some .boolean), Cond.methodLink RX6 31 yX6_leftOf, Cond.instanceMethod yX6_leftOf, Cond.selects RX6 yX6_leftOf yX6_leftOf, Cond.code yX6_leftOf cX6_leftOf 2 (some .int)]
def wsX6_goes_r2 : List Cond := [Cond.methodLink RX6 27 yX6_rightOf, Cond.instanceMethod yX6_rightOf, Cond.selects RX6 yX6_rightOf yX6_rightOf, Cond.code yX6_rightOf cX6_rightOf 2 (some .int), Cond.methodLink RX6 131 yX6_feels, Cond.instanceMethod yX6_feels, Cond.selects RX6 yX6_feels yX6_feels, Cond.code yX6_feels cX6_feels 2 (some .boolean), Cond.methodLink RX6 118 yX6_remember, Cond.instanceMethod yX6_remember, Cond.selects RX6 yX6_remember yX6_remember, Cond.code yX6_remember cX6_remember 2 none, Cond.fieldLink RX6 98 "AxleKeeperModel" "known" "I", Cond.methodLink RX6 115 yX6_copyRow, Cond.instanceMethod yX6_copyRow, Cond.selects RX6 yX6_copyRow yX6_copyRow, Cond.code yX6_copyRow cX6_copyRow 4 none, Cond.methodLink RX6 134 yX6_goOver, Cond.instanceMethod yX6_goOver, Cond.selects RX6 yX6_goOver yX6_goOver, Cond.code yX6_goOver cX6_goOver 7 (some .int)]
def wsX6_goes : List Cond := .code yX6_goes cX6_goes 5 (some .int) :: ((wsX6_goes_r1 ++ wsX6_goes_r2) ++ wsX60)
def wsX6_go_r1 : List Cond := [Cond.methodLink RX6 138 yX6_goes, Cond.instanceMethod yX6_goes, Cond.selects RX6 yX6_goes yX6_goes, Cond.initialized RX6, Cond.code yX6_goes cX6_goes 5 (some .int), Cond.constant RX6 102 (-1000000001), Cond.constant RX6 101 (-1000000002), Cond.constant RX6 124 (-1000000003), Cond.methodLink RX6 109 yX6_isHead, Cond.instanceMethod yX6_isHead, Cond.selects RX6 yX6_isHead yX6_isHead, Cond.code yX6_isHead cX6_isHead 2 (some .boolean), Cond.methodLink RX6 23 yX6_heads, Cond.instanceMethod yX6_heads, Cond.selects RX6 yX6_heads yX6_heads, Cond.code yX6_heads cX6_heads 1 (some .int), Cond.fieldLink RX6 7 "AxleKeeperModel" "w" "[I", Cond.methodLink RX6 19 yX6_in, Cond.static yX6_in, Cond.code yX6_in cX6_in 3 (some .boolean), Cond.methodLink RX6 128 yX6_canGo, Cond.instanceMethod yX6_canGo, Cond.selects RX6 yX6_canGo yX6_canGo, Cond.code yX6_canGo cX6_canGo 5 (some .boolean)]
def wsX6_go_r2 : List Cond := [Cond.methodLink RX6 31 yX6_leftOf, Cond.instanceMethod yX6_leftOf, Cond.selects RX6 yX6_leftOf yX6_leftOf, Cond.code yX6_leftOf cX6_leftOf 2 (some .int), Cond.methodLink RX6 27 yX6_rightOf, Cond.instanceMethod yX6_rightOf, Cond.selects RX6 yX6_rightOf yX6_rightOf, Cond.code yX6_rightOf cX6_rightOf 2 (some .int), Cond.methodLink RX6 131 yX6_feels, Cond.instanceMethod yX6_feels, Cond.selects RX6 yX6_feels yX6_feels, Cond.code yX6_feels cX6_feels 2 (some .boolean), Cond.methodLink RX6 118 yX6_remember, Cond.instanceMethod yX6_remember, Cond.selects RX6 yX6_remember yX6_remember, Cond.code yX6_remember cX6_remember 2 none, Cond.fieldLink RX6 98 "AxleKeeperModel" "known" "I", Cond.methodLink RX6 115 yX6_copyRow, Cond.instanceMethod yX6_copyRow, Cond.selects RX6 yX6_copyRow yX6_copyRow, Cond.code yX6_copyRow cX6_copyRow 4 none, Cond.methodLink RX6 134 yX6_goOver, Cond.instanceMethod yX6_goOver, Cond.selects RX6 yX6_goOver yX6_goOver]
def wsX6_go_r3 : List Cond := [Cond.code yX6_goOver cX6_goOver 7 (some .int)]
def wsX6_go : List Cond := .code yX6_go cX6_go 4 (some .int) :: ((wsX6_go_r1 ++ (wsX6_go_r2 ++ wsX6_go_r3)) ++ wsX60)
def wsX6_miss_r1 : List Cond := [Cond.methodLink RX6 138 yX6_goes, Cond.instanceMethod yX6_goes, Cond.selects RX6 yX6_goes yX6_goes, Cond.initialized RX6, Cond.code yX6_goes cX6_goes 5 (some .int), Cond.constant RX6 102 (-1000000001), Cond.constant RX6 101 (-1000000002), Cond.constant RX6 124 (-1000000003), Cond.methodLink RX6 109 yX6_isHead, Cond.instanceMethod yX6_isHead, Cond.selects RX6 yX6_isHead yX6_isHead, Cond.code yX6_isHead cX6_isHead 2 (some .boolean), Cond.methodLink RX6 23 yX6_heads, Cond.instanceMethod yX6_heads, Cond.selects RX6 yX6_heads yX6_heads, Cond.code yX6_heads cX6_heads 1 (some .int), Cond.fieldLink RX6 7 "AxleKeeperModel" "w" "[I", Cond.methodLink RX6 19 yX6_in, Cond.static yX6_in, Cond.code yX6_in cX6_in 3 (some .boolean), Cond.methodLink RX6 128 yX6_canGo, Cond.instanceMethod yX6_canGo, Cond.selects RX6 yX6_canGo yX6_canGo, Cond.code yX6_canGo cX6_canGo 5 (some .boolean)]
def wsX6_miss_r2 : List Cond := [Cond.methodLink RX6 31 yX6_leftOf, Cond.instanceMethod yX6_leftOf, Cond.selects RX6 yX6_leftOf yX6_leftOf, Cond.code yX6_leftOf cX6_leftOf 2 (some .int), Cond.methodLink RX6 27 yX6_rightOf, Cond.instanceMethod yX6_rightOf, Cond.selects RX6 yX6_rightOf yX6_rightOf, Cond.code yX6_rightOf cX6_rightOf 2 (some .int), Cond.methodLink RX6 131 yX6_feels, Cond.instanceMethod yX6_feels, Cond.selects RX6 yX6_feels yX6_feels, Cond.code yX6_feels cX6_feels 2 (some .boolean), Cond.methodLink RX6 118 yX6_remember, Cond.instanceMethod yX6_remember, Cond.selects RX6 yX6_remember yX6_remember, Cond.code yX6_remember cX6_remember 2 none, Cond.fieldLink RX6 98 "AxleKeeperModel" "known" "I", Cond.methodLink RX6 115 yX6_copyRow, Cond.instanceMethod yX6_copyRow, Cond.selects RX6 yX6_copyRow yX6_copyRow, Cond.code yX6_copyRow cX6_copyRow 4 none, Cond.methodLink RX6 134 yX6_goOver, Cond.instanceMethod yX6_goOver, Cond.selects RX6 yX6_goOver yX6_goOver]
def wsX6_miss_r3 : List Cond := [Cond.code yX6_goOver cX6_goOver 7 (some .int)]
def wsX6_miss : List Cond := .code yX6_miss cX6_miss 4 (some .int) :: ((wsX6_miss_r1 ++ (wsX6_miss_r2 ++ wsX6_miss_r3)) ++ wsX60)
def wsX6_tick_r1 : List Cond := [Cond.constant RX6 102 (-1000000001), Cond.methodLink RX6 141 yX6_isSet, Cond.instanceMethod yX6_isSet, Cond.selects RX6 yX6_isSet yX6_isSet, Cond.initialized RX6, Cond.code yX6_isSet cX6_isSet 2 (some .boolean), Cond.methodLink RX6 23 yX6_heads, Cond.instanceMethod yX6_heads, Cond.selects RX6 yX6_heads yX6_heads, Cond.code yX6_heads cX6_heads 1 (some .int), Cond.fieldLink RX6 7 "AxleKeeperModel" "w" "[I", Cond.methodLink RX6 19 yX6_in, Cond.static yX6_in, Cond.code yX6_in cX6_in 3 (some .boolean), Cond.methodLink RX6 118 yX6_remember, Cond.instanceMethod yX6_remember, Cond.selects RX6 yX6_remember yX6_remember, Cond.code yX6_remember cX6_remember 2 none, Cond.fieldLink RX6 98 "AxleKeeperModel" "known" "I", Cond.methodLink RX6 115 yX6_copyRow, Cond.instanceMethod yX6_copyRow, Cond.selects RX6 yX6_copyRow yX6_copyRow, Cond.code yX6_copyRow cX6_copyRow 4 none, Cond.methodLink RX6 144 yX6_tickIn]
def wsX6_tick_r2 : List Cond := [Cond.instanceMethod yX6_tickIn, Cond.selects RX6 yX6_tickIn yX6_tickIn, Cond.code yX6_tickIn cX6_tickIn 4 none, Cond.methodLink RX6 51 yX6_has, Cond.static yX6_has, Cond.code yX6_has cX6_has 2 (some .boolean), Cond.methodLink RX6 54 yX6_hear, Cond.instanceMethod yX6_hear, Cond.selects RX6 yX6_hear yX6_hear, Cond.code yX6_hear cX6_hear 6 none, Cond.methodLink RX6 27 yX6_rightOf, Cond.instanceMethod yX6_rightOf, Cond.selects RX6 yX6_rightOf yX6_rightOf, Cond.code yX6_rightOf cX6_rightOf 2 (some .int), Cond.methodLink RX6 31 yX6_leftOf, Cond.instanceMethod yX6_leftOf, Cond.selects RX6 yX6_leftOf yX6_leftOf, Cond.code yX6_leftOf cX6_leftOf 2 (some .int), Cond.methodLink RX6 58 yX6_judgeOne, Cond.instanceMethod yX6_judgeOne, Cond.selects RX6 yX6_judgeOne yX6_judgeOne, Cond.code yX6_judgeOne cX6_judgeOne 5 none, Cond.methodLink RX6 44 yX6_isTrouble, Cond.instanceMethod yX6_isTrouble]
def wsX6_tick_r3 : List Cond := [Cond.selects RX6 yX6_isTrouble yX6_isTrouble, Cond.code yX6_isTrouble cX6_isTrouble 3 (some .boolean), Cond.methodLink RX6 41 yX6_hasBad, Cond.instanceMethod yX6_hasBad, Cond.selects RX6 yX6_hasBad yX6_hasBad, Cond.code yX6_hasBad cX6_hasBad 3 (some .boolean), Cond.methodLink RX6 34 yX6_isBad, Cond.instanceMethod yX6_isBad, Cond.selects RX6 yX6_isBad yX6_isBad, Cond.code yX6_isBad cX6_isBad 3 (some .boolean), Cond.methodLink RX6 38 yX6_rightHead, Cond.instanceMethod yX6_rightHead, Cond.selects RX6 yX6_rightHead yX6_rightHead, Cond.code yX6_rightHead cX6_rightHead 2 (some .int), Cond.methodLink RX6 47 yX6_heal, Cond.instanceMethod yX6_heal, Cond.selects RX6 yX6_heal yX6_heal, Cond.code yX6_heal cX6_heal 3 none, Cond.methodLink RX6 61 yX6_isJoint, Cond.instanceMethod yX6_isJoint, Cond.selects RX6 yX6_isJoint yX6_isJoint, Cond.code yX6_isJoint cX6_isJoint 2 (some .boolean), Cond.methodLink RX6 65 yX6_sweepOver, Cond.instanceMethod yX6_sweepOver]
def wsX6_tick_r4 : List Cond := [Cond.selects RX6 yX6_sweepOver yX6_sweepOver, Cond.code yX6_sweepOver cX6_sweepOver 6 none, Cond.methodLink RX6 81 yX6_called, Cond.instanceMethod yX6_called, Cond.selects RX6 yX6_called yX6_called, Cond.code yX6_called cX6_called 5 (some .int)]
def wsX6_tick : List Cond := .code yX6_tick cX6_tick 2 (some .int) :: ((wsX6_tick_r1 ++ (wsX6_tick_r2 ++ (wsX6_tick_r3 ++ wsX6_tick_r4))) ++ wsX60)
def wsX6_reset : List Cond := .code yX6_reset cX6_reset 3 (some .int) :: ([.constant RX6 102 (-1000000001), .fieldLink RX6 7 "AxleKeeperModel" "w" "[I", .constant RX6 124 (-1000000003), .methodLink RX6 78 yX6_isSection, .instanceMethod yX6_isSection, .selects RX6 yX6_isSection yX6_isSection, .initialized RX6, .code yX6_isSection cX6_isSection 2 (some .boolean), .methodLink RX6 19 yX6_in, .static yX6_in, .code yX6_in cX6_in 3 (some .boolean), .methodLink RX6 118 yX6_remember, .instanceMethod yX6_remember, .selects RX6 yX6_remember yX6_remember, .code yX6_remember cX6_remember 2 none, .fieldLink RX6 98 "AxleKeeperModel" "known" "I", .methodLink RX6 115 yX6_copyRow, .instanceMethod yX6_copyRow, .selects RX6 yX6_copyRow yX6_copyRow, .code yX6_copyRow cX6_copyRow 4 none] ++ wsX60)
def wsX6_repair : List Cond := .code yX6_repair cX6_repair 3 (some .int) :: ([.constant RX6 102 (-1000000001), .fieldLink RX6 7 "AxleKeeperModel" "w" "[I", .constant RX6 124 (-1000000003), .methodLink RX6 109 yX6_isHead, .instanceMethod yX6_isHead, .selects RX6 yX6_isHead yX6_isHead, .initialized RX6, .code yX6_isHead cX6_isHead 2 (some .boolean), .methodLink RX6 23 yX6_heads, .instanceMethod yX6_heads, .selects RX6 yX6_heads yX6_heads, .code yX6_heads cX6_heads 1 (some .int), .methodLink RX6 19 yX6_in, .static yX6_in, .code yX6_in cX6_in 3 (some .boolean), .methodLink RX6 118 yX6_remember, .instanceMethod yX6_remember, .selects RX6 yX6_remember yX6_remember, .code yX6_remember cX6_remember 2 none, .fieldLink RX6 98 "AxleKeeperModel" "known" "I", .methodLink RX6 115 yX6_copyRow, .instanceMethod yX6_copyRow, .selects RX6 yX6_copyRow yX6_copyRow, .code yX6_copyRow cX6_copyRow 4 none] ++ wsX60)
def wsX6_draw : List Cond := .code yX6_draw cX6_draw 4 (some .int) :: ([.fieldLink RX6 7 "AxleKeeperModel" "w" "[I", .constantLong RX6 147 (1103515245), .constantLong RX6 149 (12345), .constantLong RX6 151 (2147483648), .constant RX6 153 (65536)] ++ wsX60)
def wsX6_time_r1 : List Cond := [Cond.methodLink RX6 23 yX6_heads, Cond.instanceMethod yX6_heads, Cond.selects RX6 yX6_heads yX6_heads, Cond.initialized RX6, Cond.code yX6_heads cX6_heads 1 (some .int), Cond.fieldLink RX6 7 "AxleKeeperModel" "w" "[I", Cond.methodLink RX6 154 yX6_draw, Cond.instanceMethod yX6_draw, Cond.selects RX6 yX6_draw yX6_draw, Cond.code yX6_draw cX6_draw 4 (some .int), Cond.constantLong RX6 147 (1103515245), Cond.constantLong RX6 149 (12345), Cond.constantLong RX6 151 (2147483648), Cond.constant RX6 153 (65536), Cond.methodLink RX6 128 yX6_canGo, Cond.instanceMethod yX6_canGo, Cond.selects RX6 yX6_canGo yX6_canGo, Cond.code yX6_canGo cX6_canGo 5 (some .boolean), Cond.methodLink RX6 31 yX6_leftOf, Cond.instanceMethod yX6_leftOf, Cond.selects RX6 yX6_leftOf yX6_leftOf, Cond.code yX6_leftOf cX6_leftOf 2 (some .int), Cond.methodLink RX6 27 yX6_rightOf, Cond.instanceMethod yX6_rightOf]
def wsX6_time_r2 : List Cond := [Cond.selects RX6 yX6_rightOf yX6_rightOf, Cond.code yX6_rightOf cX6_rightOf 2 (some .int), Cond.methodLink RX6 131 yX6_feels, Cond.instanceMethod yX6_feels, Cond.selects RX6 yX6_feels yX6_feels, Cond.code yX6_feels cX6_feels 2 (some .boolean), Cond.methodLink RX6 134 yX6_goOver, Cond.instanceMethod yX6_goOver, Cond.selects RX6 yX6_goOver yX6_goOver, Cond.code yX6_goOver cX6_goOver 7 (some .int), Cond.methodLink RX6 144 yX6_tickIn, Cond.instanceMethod yX6_tickIn, Cond.selects RX6 yX6_tickIn yX6_tickIn, Cond.code yX6_tickIn cX6_tickIn 4 none, Cond.methodLink RX6 51 yX6_has, Cond.static yX6_has, Cond.code yX6_has cX6_has 2 (some .boolean), Cond.methodLink RX6 54 yX6_hear, Cond.instanceMethod yX6_hear, Cond.selects RX6 yX6_hear yX6_hear, Cond.code yX6_hear cX6_hear 6 none, Cond.methodLink RX6 58 yX6_judgeOne, Cond.instanceMethod yX6_judgeOne, Cond.selects RX6 yX6_judgeOne yX6_judgeOne]
def wsX6_time_r3 : List Cond := [Cond.code yX6_judgeOne cX6_judgeOne 5 none, Cond.methodLink RX6 44 yX6_isTrouble, Cond.instanceMethod yX6_isTrouble, Cond.selects RX6 yX6_isTrouble yX6_isTrouble, Cond.code yX6_isTrouble cX6_isTrouble 3 (some .boolean), Cond.methodLink RX6 41 yX6_hasBad, Cond.instanceMethod yX6_hasBad, Cond.selects RX6 yX6_hasBad yX6_hasBad, Cond.code yX6_hasBad cX6_hasBad 3 (some .boolean), Cond.methodLink RX6 34 yX6_isBad, Cond.instanceMethod yX6_isBad, Cond.selects RX6 yX6_isBad yX6_isBad, Cond.code yX6_isBad cX6_isBad 3 (some .boolean), Cond.methodLink RX6 38 yX6_rightHead, Cond.instanceMethod yX6_rightHead, Cond.selects RX6 yX6_rightHead yX6_rightHead, Cond.code yX6_rightHead cX6_rightHead 2 (some .int), Cond.methodLink RX6 47 yX6_heal, Cond.instanceMethod yX6_heal, Cond.selects RX6 yX6_heal yX6_heal, Cond.code yX6_heal cX6_heal 3 none, Cond.methodLink RX6 61 yX6_isJoint, Cond.instanceMethod yX6_isJoint, Cond.selects RX6 yX6_isJoint yX6_isJoint]
def wsX6_time_r4 : List Cond := [Cond.code yX6_isJoint cX6_isJoint 2 (some .boolean), Cond.methodLink RX6 65 yX6_sweepOver, Cond.instanceMethod yX6_sweepOver, Cond.selects RX6 yX6_sweepOver yX6_sweepOver, Cond.code yX6_sweepOver cX6_sweepOver 6 none]
def wsX6_time : List Cond := .code yX6_time cX6_time 7 none :: ((wsX6_time_r1 ++ (wsX6_time_r2 ++ (wsX6_time_r3 ++ wsX6_time_r4))) ++ wsX60)
def wsX6_drift_r1 : List Cond := [Cond.constant RX6 101 (-1000000002), Cond.methodLink RX6 19 yX6_in, Cond.static yX6_in, Cond.initialized RX6, Cond.code yX6_in cX6_in 3 (some .boolean), Cond.methodLink RX6 118 yX6_remember, Cond.instanceMethod yX6_remember, Cond.selects RX6 yX6_remember yX6_remember, Cond.code yX6_remember cX6_remember 2 none, Cond.fieldLink RX6 98 "AxleKeeperModel" "known" "I", Cond.methodLink RX6 115 yX6_copyRow, Cond.instanceMethod yX6_copyRow, Cond.selects RX6 yX6_copyRow yX6_copyRow, Cond.code yX6_copyRow cX6_copyRow 4 none, Cond.fieldLink RX6 7 "AxleKeeperModel" "w" "[I", Cond.methodLink RX6 157 yX6_time, Cond.instanceMethod yX6_time, Cond.selects RX6 yX6_time yX6_time, Cond.code yX6_time cX6_time 7 none, Cond.methodLink RX6 23 yX6_heads, Cond.instanceMethod yX6_heads, Cond.selects RX6 yX6_heads yX6_heads, Cond.code yX6_heads cX6_heads 1 (some .int), Cond.methodLink RX6 154 yX6_draw]
def wsX6_drift_r2 : List Cond := [Cond.instanceMethod yX6_draw, Cond.selects RX6 yX6_draw yX6_draw, Cond.code yX6_draw cX6_draw 4 (some .int), Cond.constantLong RX6 147 (1103515245), Cond.constantLong RX6 149 (12345), Cond.constantLong RX6 151 (2147483648), Cond.constant RX6 153 (65536), Cond.methodLink RX6 128 yX6_canGo, Cond.instanceMethod yX6_canGo, Cond.selects RX6 yX6_canGo yX6_canGo, Cond.code yX6_canGo cX6_canGo 5 (some .boolean), Cond.methodLink RX6 31 yX6_leftOf, Cond.instanceMethod yX6_leftOf, Cond.selects RX6 yX6_leftOf yX6_leftOf, Cond.code yX6_leftOf cX6_leftOf 2 (some .int), Cond.methodLink RX6 27 yX6_rightOf, Cond.instanceMethod yX6_rightOf, Cond.selects RX6 yX6_rightOf yX6_rightOf, Cond.code yX6_rightOf cX6_rightOf 2 (some .int), Cond.methodLink RX6 131 yX6_feels, Cond.instanceMethod yX6_feels, Cond.selects RX6 yX6_feels yX6_feels, Cond.code yX6_feels cX6_feels 2 (some .boolean), Cond.methodLink RX6 134 yX6_goOver]
def wsX6_drift_r3 : List Cond := [Cond.instanceMethod yX6_goOver, Cond.selects RX6 yX6_goOver yX6_goOver, Cond.code yX6_goOver cX6_goOver 7 (some .int), Cond.methodLink RX6 144 yX6_tickIn, Cond.instanceMethod yX6_tickIn, Cond.selects RX6 yX6_tickIn yX6_tickIn, Cond.code yX6_tickIn cX6_tickIn 4 none, Cond.methodLink RX6 51 yX6_has, Cond.static yX6_has, Cond.code yX6_has cX6_has 2 (some .boolean), Cond.methodLink RX6 54 yX6_hear, Cond.instanceMethod yX6_hear, Cond.selects RX6 yX6_hear yX6_hear, Cond.code yX6_hear cX6_hear 6 none, Cond.methodLink RX6 58 yX6_judgeOne, Cond.instanceMethod yX6_judgeOne, Cond.selects RX6 yX6_judgeOne yX6_judgeOne, Cond.code yX6_judgeOne cX6_judgeOne 5 none, Cond.methodLink RX6 44 yX6_isTrouble, Cond.instanceMethod yX6_isTrouble, Cond.selects RX6 yX6_isTrouble yX6_isTrouble, Cond.code yX6_isTrouble cX6_isTrouble 3 (some .boolean), Cond.methodLink RX6 41 yX6_hasBad, Cond.instanceMethod yX6_hasBad]
def wsX6_drift_r4 : List Cond := [Cond.selects RX6 yX6_hasBad yX6_hasBad, Cond.code yX6_hasBad cX6_hasBad 3 (some .boolean), Cond.methodLink RX6 34 yX6_isBad, Cond.instanceMethod yX6_isBad, Cond.selects RX6 yX6_isBad yX6_isBad, Cond.code yX6_isBad cX6_isBad 3 (some .boolean), Cond.methodLink RX6 38 yX6_rightHead, Cond.instanceMethod yX6_rightHead, Cond.selects RX6 yX6_rightHead yX6_rightHead, Cond.code yX6_rightHead cX6_rightHead 2 (some .int), Cond.methodLink RX6 47 yX6_heal, Cond.instanceMethod yX6_heal, Cond.selects RX6 yX6_heal yX6_heal, Cond.code yX6_heal cX6_heal 3 none, Cond.methodLink RX6 61 yX6_isJoint, Cond.instanceMethod yX6_isJoint, Cond.selects RX6 yX6_isJoint yX6_isJoint, Cond.code yX6_isJoint cX6_isJoint 2 (some .boolean), Cond.methodLink RX6 65 yX6_sweepOver, Cond.instanceMethod yX6_sweepOver, Cond.selects RX6 yX6_sweepOver yX6_sweepOver, Cond.code yX6_sweepOver cX6_sweepOver 6 none, Cond.methodLink RX6 81 yX6_called, Cond.instanceMethod yX6_called]
def wsX6_drift_r5 : List Cond := [Cond.selects RX6 yX6_called yX6_called, Cond.code yX6_called cX6_called 5 (some .int)]
def wsX6_drift : List Cond := .code yX6_drift cX6_drift 3 (some .int) :: ((wsX6_drift_r1 ++ (wsX6_drift_r2 ++ (wsX6_drift_r3 ++ (wsX6_drift_r4 ++ wsX6_drift_r5)))) ++ wsX60)
def wsX6_undo : List Cond := .code yX6_undo cX6_undo 3 (some .int) :: ([.constant RX6 101 (-1000000002), .fieldLink RX6 98 "AxleKeeperModel" "known" "I", .constant RX6 124 (-1000000003), .fieldLink RX6 7 "AxleKeeperModel" "w" "[I", .methodLink RX6 19 yX6_in, .static yX6_in, .initialized RX6, .code yX6_in cX6_in 3 (some .boolean), .methodLink RX6 115 yX6_copyRow, .instanceMethod yX6_copyRow, .selects RX6 yX6_copyRow yX6_copyRow, .code yX6_copyRow cX6_copyRow 4 none] ++ wsX60)
def wsX6_would_r1 : List Cond := [Cond.constant RX6 102 (-1000000001), Cond.methodLink RX6 141 yX6_isSet, Cond.instanceMethod yX6_isSet, Cond.selects RX6 yX6_isSet yX6_isSet, Cond.initialized RX6, Cond.code yX6_isSet cX6_isSet 2 (some .boolean), Cond.methodLink RX6 23 yX6_heads, Cond.instanceMethod yX6_heads, Cond.selects RX6 yX6_heads yX6_heads, Cond.code yX6_heads cX6_heads 1 (some .int), Cond.fieldLink RX6 7 "AxleKeeperModel" "w" "[I", Cond.methodLink RX6 19 yX6_in, Cond.static yX6_in, Cond.code yX6_in cX6_in 3 (some .boolean), Cond.methodLink RX6 115 yX6_copyRow, Cond.instanceMethod yX6_copyRow, Cond.selects RX6 yX6_copyRow yX6_copyRow, Cond.code yX6_copyRow cX6_copyRow 4 none, Cond.methodLink RX6 144 yX6_tickIn, Cond.instanceMethod yX6_tickIn, Cond.selects RX6 yX6_tickIn yX6_tickIn, Cond.code yX6_tickIn cX6_tickIn 4 none, Cond.methodLink RX6 51 yX6_has, Cond.static yX6_has]
def wsX6_would_r2 : List Cond := [Cond.code yX6_has cX6_has 2 (some .boolean), Cond.methodLink RX6 54 yX6_hear, Cond.instanceMethod yX6_hear, Cond.selects RX6 yX6_hear yX6_hear, Cond.code yX6_hear cX6_hear 6 none, Cond.methodLink RX6 27 yX6_rightOf, Cond.instanceMethod yX6_rightOf, Cond.selects RX6 yX6_rightOf yX6_rightOf, Cond.code yX6_rightOf cX6_rightOf 2 (some .int), Cond.methodLink RX6 31 yX6_leftOf, Cond.instanceMethod yX6_leftOf, Cond.selects RX6 yX6_leftOf yX6_leftOf, Cond.code yX6_leftOf cX6_leftOf 2 (some .int), Cond.methodLink RX6 58 yX6_judgeOne, Cond.instanceMethod yX6_judgeOne, Cond.selects RX6 yX6_judgeOne yX6_judgeOne, Cond.code yX6_judgeOne cX6_judgeOne 5 none, Cond.methodLink RX6 44 yX6_isTrouble, Cond.instanceMethod yX6_isTrouble, Cond.selects RX6 yX6_isTrouble yX6_isTrouble, Cond.code yX6_isTrouble cX6_isTrouble 3 (some .boolean), Cond.methodLink RX6 41 yX6_hasBad, Cond.instanceMethod yX6_hasBad, Cond.selects RX6 yX6_hasBad yX6_hasBad]
def wsX6_would_r3 : List Cond := [Cond.code yX6_hasBad cX6_hasBad 3 (some .boolean), Cond.methodLink RX6 34 yX6_isBad, Cond.instanceMethod yX6_isBad, Cond.selects RX6 yX6_isBad yX6_isBad, Cond.code yX6_isBad cX6_isBad 3 (some .boolean), Cond.methodLink RX6 38 yX6_rightHead, Cond.instanceMethod yX6_rightHead, Cond.selects RX6 yX6_rightHead yX6_rightHead, Cond.code yX6_rightHead cX6_rightHead 2 (some .int), Cond.methodLink RX6 47 yX6_heal, Cond.instanceMethod yX6_heal, Cond.selects RX6 yX6_heal yX6_heal, Cond.code yX6_heal cX6_heal 3 none, Cond.methodLink RX6 61 yX6_isJoint, Cond.instanceMethod yX6_isJoint, Cond.selects RX6 yX6_isJoint yX6_isJoint, Cond.code yX6_isJoint cX6_isJoint 2 (some .boolean), Cond.methodLink RX6 65 yX6_sweepOver, Cond.instanceMethod yX6_sweepOver, Cond.selects RX6 yX6_sweepOver yX6_sweepOver, Cond.code yX6_sweepOver cX6_sweepOver 6 none, Cond.methodLink RX6 81 yX6_called, Cond.instanceMethod yX6_called, Cond.selects RX6 yX6_called yX6_called]
def wsX6_would_r4 : List Cond := [Cond.code yX6_called cX6_called 5 (some .int)]
def wsX6_would : List Cond := .code yX6_would cX6_would 2 (some .int) :: ((wsX6_would_r1 ++ (wsX6_would_r2 ++ (wsX6_would_r3 ++ wsX6_would_r4))) ++ wsX60)
def wsX6_write : List Cond := .code yX6_write cX6_write 3 (some .int) :: ([.constant RX6 102 (-1000000001), .constant RX6 101 (-1000000002), .fieldLink RX6 74 "AxleKeeperModel" "written" "I", .constant RX6 160 (-1000000004), .fieldLink RX6 13 "AxleKeeperModel" "bookOf" "[I", .fieldLink RX6 16 "AxleKeeperModel" "bookCall" "[I", .methodLink RX6 78 yX6_isSection, .instanceMethod yX6_isSection, .selects RX6 yX6_isSection yX6_isSection, .initialized RX6, .code yX6_isSection cX6_isSection 2 (some .boolean), .fieldLink RX6 7 "AxleKeeperModel" "w" "[I", .methodLink RX6 19 yX6_in, .static yX6_in, .code yX6_in cX6_in 3 (some .boolean)] ++ wsX60)
def wsX6_tear : List Cond := .code yX6_tear cX6_tear 2 (some .int) :: ([.fieldLink RX6 74 "AxleKeeperModel" "written" "I"] ++ wsX60)
def wsX6_seed : List Cond := .code yX6_seed cX6_seed 3 (some .int) :: ([.constant RX6 101 (-1000000002), .fieldLink RX6 7 "AxleKeeperModel" "w" "[I"] ++ wsX60)
def wsX6_keep : List Cond := .code yX6_keep cX6_keep 2 (some .int) :: ([.constant RX6 102 (-1000000001), .fieldLink RX6 161 "AxleKeeperModel" "kept" "I", .fieldLink RX6 98 "AxleKeeperModel" "known" "I", .methodLink RX6 19 yX6_in, .static yX6_in, .initialized RX6, .code yX6_in cX6_in 3 (some .boolean), .methodLink RX6 115 yX6_copyRow, .instanceMethod yX6_copyRow, .selects RX6 yX6_copyRow yX6_copyRow, .code yX6_copyRow cX6_copyRow 4 none, .fieldLink RX6 7 "AxleKeeperModel" "w" "[I"] ++ wsX60)
def wsX6_goBack : List Cond := .code yX6_goBack cX6_goBack 2 (some .int) :: ([.constant RX6 102 (-1000000001), .fieldLink RX6 161 "AxleKeeperModel" "kept" "I", .constant RX6 124 (-1000000003), .fieldLink RX6 98 "AxleKeeperModel" "known" "I", .methodLink RX6 19 yX6_in, .static yX6_in, .initialized RX6, .code yX6_in cX6_in 3 (some .boolean), .methodLink RX6 51 yX6_has, .static yX6_has, .code yX6_has cX6_has 2 (some .boolean), .methodLink RX6 115 yX6_copyRow, .instanceMethod yX6_copyRow, .selects RX6 yX6_copyRow yX6_copyRow, .code yX6_copyRow cX6_copyRow 4 none, .fieldLink RX6 7 "AxleKeeperModel" "w" "[I"] ++ wsX60)
def wsJ9_max_7cf53 : List Cond := .code yJ9_max_7cf53 cJ9_max_7cf53 2 (some .int) :: ([])
abbrev vwCl : List vw_C := [(RX0, TX0, 3), (RX1, TX1, 1), (RX2, TX2, 3), (RX3, TX3, 15), (RX4, TX4, 3), (RX5, TX5, 6), (RX6, TX6, 6)]
end
section
theorem dX0_init_0 : decode cX0_init 0 = .ok (.aload_n 0, 1) := by decide +kernel
theorem dX0_init_1 : decode cX0_init 1 = .ok (.invokespecial 3, 3) := by decide +kernel
theorem dX0_init_4 : decode cX0_init 4 = .ok (.aload_n 0, 1) := by decide +kernel
theorem dX0_init_5 : decode cX0_init 5 = .ok (.bipush 20, 2) := by decide +kernel
theorem dX0_init_7 : decode cX0_init 7 = .ok (.newarray .int, 2) := by decide +kernel
theorem dX0_init_9 : decode cX0_init 9 = .ok (.putfield 11, 3) := by decide +kernel
theorem dX0_init_12 : decode cX0_init 12 = .ok (.aload_n 0, 1) := by decide +kernel
theorem dX0_init_13 : decode cX0_init 13 = .ok (.bipush 20, 2) := by decide +kernel
theorem dX0_init_15 : decode cX0_init 15 = .ok (.newarray .int, 2) := by decide +kernel
theorem dX0_init_17 : decode cX0_init 17 = .ok (.putfield 15, 3) := by decide +kernel
theorem dX0_init_20 : decode cX0_init 20 = .ok (.return_, 1) := by decide +kernel
theorem dX0_add_0 : decode cX0_add 0 = .ok (.aload_n 0, 1) := by decide +kernel
theorem dX0_add_1 : decode cX0_add 1 = .ok (.getfield 18, 3) := by decide +kernel
theorem dX0_add_4 : decode cX0_add 4 = .ok (.ifCond .lt 12, 3) := by decide +kernel
theorem dX0_add_7 : decode cX0_add 7 = .ok (.aload_n 0, 1) := by decide +kernel
theorem dX0_add_8 : decode cX0_add 8 = .ok (.getfield 18, 3) := by decide +kernel
theorem dX0_add_11 : decode cX0_add 11 = .ok (.bipush 20, 2) := by decide +kernel
theorem dX0_add_13 : decode cX0_add 13 = .ok (.if_icmp .lt 4, 3) := by decide +kernel
theorem dX0_add_16 : decode cX0_add 16 = .ok (.return_, 1) := by decide +kernel
theorem dX0_add_17 : decode cX0_add 17 = .ok (.aload_n 0, 1) := by decide +kernel
theorem dX0_add_18 : decode cX0_add 18 = .ok (.getfield 11, 3) := by decide +kernel
theorem dX0_add_21 : decode cX0_add 21 = .ok (.aload_n 0, 1) := by decide +kernel
theorem dX0_add_22 : decode cX0_add 22 = .ok (.getfield 18, 3) := by decide +kernel
theorem dX0_add_25 : decode cX0_add 25 = .ok (.iload_n 1, 1) := by decide +kernel
theorem dX0_add_26 : decode cX0_add 26 = .ok (.iastore, 1) := by decide +kernel
theorem dX0_add_27 : decode cX0_add 27 = .ok (.aload_n 0, 1) := by decide +kernel
theorem dX0_add_28 : decode cX0_add 28 = .ok (.getfield 15, 3) := by decide +kernel
theorem dX0_add_31 : decode cX0_add 31 = .ok (.aload_n 0, 1) := by decide +kernel
theorem dX0_add_32 : decode cX0_add 32 = .ok (.getfield 18, 3) := by decide +kernel
theorem dX0_add_35 : decode cX0_add 35 = .ok (.iload_n 2, 1) := by decide +kernel
theorem dX0_add_36 : decode cX0_add 36 = .ok (.iastore, 1) := by decide +kernel
theorem dX0_add_37 : decode cX0_add 37 = .ok (.aload_n 0, 1) := by decide +kernel
theorem dX0_add_38 : decode cX0_add 38 = .ok (.dup, 1) := by decide +kernel
theorem dX0_add_39 : decode cX0_add 39 = .ok (.getfield 18, 3) := by decide +kernel
theorem dX0_add_42 : decode cX0_add 42 = .ok (.iconst 1, 1) := by decide +kernel
theorem dX0_add_43 : decode cX0_add 43 = .ok (.iadd, 1) := by decide +kernel
theorem dX0_add_44 : decode cX0_add 44 = .ok (.putfield 18, 3) := by decide +kernel
theorem dX0_add_47 : decode cX0_add 47 = .ok (.return_, 1) := by decide +kernel
set_option maxRecDepth 20000 in
theorem ggX0_firstWrong_X3_hasSection : GoodIn wsX0_firstWrong wsX3_hasSection := goodIn_r _ [9, 10, 14, 15, 16, 17, 18, 19, 20, 21, 22, 23, 24, 25, 26, 27, 28] (by decide +kernel) (by decide +kernel)
set_option maxRecDepth 20000 in
theorem gX0_firstWrong_X3_hasSection : GoodIn wsX0_firstWrong (wsV RX0 22 RX3 yX3_hasSection wsX3_hasSection) := goodIn_app (goodIn_of _ (by decide +kernel)) ggX0_firstWrong_X3_hasSection
theorem dX0_firstWrong_0 : decode cX0_firstWrong 0 = .ok (.iconst 0, 1) := by decide +kernel
theorem dX0_firstWrong_1 : decode cX0_firstWrong 1 = .ok (.istore_n 2, 1) := by decide +kernel
theorem dX0_firstWrong_2 : decode cX0_firstWrong 2 = .ok (.iload_n 2, 1) := by decide +kernel
theorem dX0_firstWrong_3 : decode cX0_firstWrong 3 = .ok (.aload_n 0, 1) := by decide +kernel
theorem dX0_firstWrong_4 : decode cX0_firstWrong 4 = .ok (.getfield 18, 3) := by decide +kernel
theorem dX0_firstWrong_7 : decode cX0_firstWrong 7 = .ok (.if_icmp .ge 47, 3) := by decide +kernel
theorem dX0_firstWrong_10 : decode cX0_firstWrong 10 = .ok (.iload_n 2, 1) := by decide +kernel
theorem dX0_firstWrong_11 : decode cX0_firstWrong 11 = .ok (.bipush 20, 2) := by decide +kernel
theorem dX0_firstWrong_13 : decode cX0_firstWrong 13 = .ok (.if_icmp .ge 41, 3) := by decide +kernel
theorem dX0_firstWrong_16 : decode cX0_firstWrong 16 = .ok (.aload_n 0, 1) := by decide +kernel
theorem dX0_firstWrong_17 : decode cX0_firstWrong 17 = .ok (.getfield 11, 3) := by decide +kernel
theorem dX0_firstWrong_20 : decode cX0_firstWrong 20 = .ok (.iload_n 2, 1) := by decide +kernel
theorem dX0_firstWrong_21 : decode cX0_firstWrong 21 = .ok (.iaload, 1) := by decide +kernel
theorem dX0_firstWrong_22 : decode cX0_firstWrong 22 = .ok (.istore_n 3, 1) := by decide +kernel
theorem dX0_firstWrong_23 : decode cX0_firstWrong 23 = .ok (.aload_n 1, 1) := by decide +kernel
theorem dX0_firstWrong_24 : decode cX0_firstWrong 24 = .ok (.iload_n 3, 1) := by decide +kernel
theorem dX0_firstWrong_25 : decode cX0_firstWrong 25 = .ok (.invokevirtual 22, 3) := by decide +kernel
theorem dX0_firstWrong_28 : decode cX0_firstWrong 28 = .ok (.ifCond .eq 18, 3) := by decide +kernel
theorem dX0_firstWrong_31 : decode cX0_firstWrong 31 = .ok (.aload_n 1, 1) := by decide +kernel
theorem dX0_firstWrong_32 : decode cX0_firstWrong 32 = .ok (.getfield 28, 3) := by decide +kernel
theorem dX0_firstWrong_35 : decode cX0_firstWrong 35 = .ok (.iload_n 3, 1) := by decide +kernel
theorem dX0_firstWrong_36 : decode cX0_firstWrong 36 = .ok (.iaload, 1) := by decide +kernel
theorem dX0_firstWrong_37 : decode cX0_firstWrong 37 = .ok (.aload_n 0, 1) := by decide +kernel
theorem dX0_firstWrong_38 : decode cX0_firstWrong 38 = .ok (.getfield 15, 3) := by decide +kernel
theorem dX0_firstWrong_41 : decode cX0_firstWrong 41 = .ok (.iload_n 2, 1) := by decide +kernel
theorem dX0_firstWrong_42 : decode cX0_firstWrong 42 = .ok (.iaload, 1) := by decide +kernel
theorem dX0_firstWrong_43 : decode cX0_firstWrong 43 = .ok (.if_icmp .eq 5, 3) := by decide +kernel
theorem dX0_firstWrong_46 : decode cX0_firstWrong 46 = .ok (.iload_n 2, 1) := by decide +kernel
theorem dX0_firstWrong_47 : decode cX0_firstWrong 47 = .ok (.ireturn, 1) := by decide +kernel
theorem dX0_firstWrong_48 : decode cX0_firstWrong 48 = .ok (.iinc 2 1, 3) := by decide +kernel
theorem dX0_firstWrong_51 : decode cX0_firstWrong 51 = .ok (.goto (-49), 3) := by decide +kernel
theorem dX0_firstWrong_54 : decode cX0_firstWrong 54 = .ok (.iconst (-1), 1) := by decide +kernel
theorem dX0_firstWrong_55 : decode cX0_firstWrong 55 = .ok (.ireturn, 1) := by decide +kernel
theorem dX1_init_0 : decode cX1_init 0 = .ok (.aload_n 0, 1) := by decide +kernel
theorem dX1_init_1 : decode cX1_init 1 = .ok (.invokespecial 1, 3) := by decide +kernel
theorem dX1_init_4 : decode cX1_init 4 = .ok (.return_, 1) := by decide +kernel
theorem dX1_next_0 : decode cX1_next 0 = .ok (.aload_n 0, 1) := by decide +kernel
theorem dX1_next_1 : decode cX1_next 1 = .ok (.aload_n 0, 1) := by decide +kernel
theorem dX1_next_2 : decode cX1_next 2 = .ok (.getfield 7, 3) := by decide +kernel
theorem dX1_next_5 : decode cX1_next 5 = .ok (.ldc 13, 2) := by decide +kernel
theorem dX1_next_7 : decode cX1_next 7 = .ok (.imul, 1) := by decide +kernel
theorem dX1_next_8 : decode cX1_next 8 = .ok (.sipush 12345, 3) := by decide +kernel
theorem dX1_next_11 : decode cX1_next 11 = .ok (.iadd, 1) := by decide +kernel
theorem dX1_next_12 : decode cX1_next 12 = .ok (.ldc 14, 2) := by decide +kernel
theorem dX1_next_14 : decode cX1_next 14 = .ok (.iand, 1) := by decide +kernel
theorem dX1_next_15 : decode cX1_next 15 = .ok (.putfield 7, 3) := by decide +kernel
theorem dX1_next_18 : decode cX1_next 18 = .ok (.iload_n 1, 1) := by decide +kernel
theorem dX1_next_19 : decode cX1_next 19 = .ok (.iconst 1, 1) := by decide +kernel
theorem dX1_next_20 : decode cX1_next 20 = .ok (.if_icmp .ge 7, 3) := by decide +kernel
theorem dX1_next_23 : decode cX1_next 23 = .ok (.iconst 0, 1) := by decide +kernel
theorem dX1_next_24 : decode cX1_next 24 = .ok (.goto 12, 3) := by decide +kernel
theorem dX1_next_27 : decode cX1_next 27 = .ok (.aload_n 0, 1) := by decide +kernel
theorem dX1_next_28 : decode cX1_next 28 = .ok (.getfield 7, 3) := by decide +kernel
theorem dX1_next_31 : decode cX1_next 31 = .ok (.ldc 15, 2) := by decide +kernel
theorem dX1_next_33 : decode cX1_next 33 = .ok (.idiv, 1) := by decide +kernel
theorem dX1_next_34 : decode cX1_next 34 = .ok (.iload_n 1, 1) := by decide +kernel
theorem dX1_next_35 : decode cX1_next 35 = .ok (.irem, 1) := by decide +kernel
theorem dX1_next_36 : decode cX1_next 36 = .ok (.ireturn, 1) := by decide +kernel
theorem dX2_init_0 : decode cX2_init 0 = .ok (.aload_n 0, 1) := by decide +kernel
theorem dX2_init_1 : decode cX2_init 1 = .ok (.invokespecial 1, 3) := by decide +kernel
theorem dX2_init_4 : decode cX2_init 4 = .ok (.aload_n 0, 1) := by decide +kernel
theorem dX2_init_5 : decode cX2_init 5 = .ok (.iconst 2, 1) := by decide +kernel
theorem dX2_init_6 : decode cX2_init 6 = .ok (.bipush 83, 2) := by decide +kernel
theorem dX2_init_8 : decode cX2_init 8 = .ok (.multianewarray 11 2, 4) := by decide +kernel
theorem dX2_init_12 : decode cX2_init 12 = .ok (.putfield 13, 3) := by decide +kernel
theorem dX2_init_15 : decode cX2_init 15 = .ok (.aload_n 0, 1) := by decide +kernel
theorem dX2_init_16 : decode cX2_init 16 = .ok (.iconst 2, 1) := by decide +kernel
theorem dX2_init_17 : decode cX2_init 17 = .ok (.newarray .int, 2) := by decide +kernel
theorem dX2_init_19 : decode cX2_init 19 = .ok (.putfield 16, 3) := by decide +kernel
theorem dX2_init_22 : decode cX2_init 22 = .ok (.aload_n 0, 1) := by decide +kernel
theorem dX2_init_23 : decode cX2_init 23 = .ok (.iconst 2, 1) := by decide +kernel
theorem dX2_init_24 : decode cX2_init 24 = .ok (.newarray .boolean, 2) := by decide +kernel
theorem dX2_init_26 : decode cX2_init 26 = .ok (.putfield 20, 3) := by decide +kernel
theorem dX2_init_29 : decode cX2_init 29 = .ok (.return_, 1) := by decide +kernel
theorem dX2_hasPlace_0 : decode cX2_hasPlace 0 = .ok (.iload_n 1, 1) := by decide +kernel
theorem dX2_hasPlace_1 : decode cX2_hasPlace 1 = .ok (.ifCond .lt 12, 3) := by decide +kernel
theorem dX2_hasPlace_4 : decode cX2_hasPlace 4 = .ok (.iload_n 1, 1) := by decide +kernel
theorem dX2_hasPlace_5 : decode cX2_hasPlace 5 = .ok (.iconst 2, 1) := by decide +kernel
theorem dX2_hasPlace_6 : decode cX2_hasPlace 6 = .ok (.if_icmp .ge 7, 3) := by decide +kernel
theorem dX2_hasPlace_9 : decode cX2_hasPlace 9 = .ok (.iconst 1, 1) := by decide +kernel
theorem dX2_hasPlace_10 : decode cX2_hasPlace 10 = .ok (.goto 4, 3) := by decide +kernel
theorem dX2_hasPlace_13 : decode cX2_hasPlace 13 = .ok (.iconst 0, 1) := by decide +kernel
theorem dX2_hasPlace_14 : decode cX2_hasPlace 14 = .ok (.ireturn, 1) := by decide +kernel
set_option maxRecDepth 20000 in
theorem ggX2_take_X3_save : GoodIn wsX2_take wsX3_save := goodIn_r _ [9, 10, 11, 12, 13, 14, 15, 16, 17, 18, 19, 20, 21, 22, 23, 24, 25, 26, 8, 27, 28, 29, 30, 31, 36, 37, 38, 39, 40, 41, 42, 43, 44, 45, 46, 47, 48, 49, 50] (by decide +kernel) (by decide +kernel)
set_option maxRecDepth 20000 in
theorem gX2_take_X3_save : GoodIn wsX2_take (wsV RX2 24 RX3 yX3_save wsX3_save) := goodIn_app (goodIn_of _ (by decide +kernel)) ggX2_take_X3_save
theorem dX2_take_0 : decode cX2_take 0 = .ok (.aload_n 2, 1) := by decide +kernel
theorem dX2_take_1 : decode cX2_take 1 = .ok (.aload_n 0, 1) := by decide +kernel
theorem dX2_take_2 : decode cX2_take 2 = .ok (.getfield 13, 3) := by decide +kernel
theorem dX2_take_5 : decode cX2_take 5 = .ok (.iload_n 1, 1) := by decide +kernel
theorem dX2_take_6 : decode cX2_take 6 = .ok (.aaload, 1) := by decide +kernel
theorem dX2_take_7 : decode cX2_take 7 = .ok (.invokevirtual 24, 3) := by decide +kernel
theorem dX2_take_10 : decode cX2_take 10 = .ok (.aload_n 0, 1) := by decide +kernel
theorem dX2_take_11 : decode cX2_take 11 = .ok (.getfield 16, 3) := by decide +kernel
theorem dX2_take_14 : decode cX2_take 14 = .ok (.iload_n 1, 1) := by decide +kernel
theorem dX2_take_15 : decode cX2_take 15 = .ok (.aload_n 3, 1) := by decide +kernel
theorem dX2_take_16 : decode cX2_take 16 = .ok (.getfield 28, 3) := by decide +kernel
theorem dX2_take_19 : decode cX2_take 19 = .ok (.iastore, 1) := by decide +kernel
theorem dX2_take_20 : decode cX2_take 20 = .ok (.aload_n 0, 1) := by decide +kernel
theorem dX2_take_21 : decode cX2_take 21 = .ok (.getfield 20, 3) := by decide +kernel
theorem dX2_take_24 : decode cX2_take 24 = .ok (.iload_n 1, 1) := by decide +kernel
theorem dX2_take_25 : decode cX2_take 25 = .ok (.iconst 1, 1) := by decide +kernel
theorem dX2_take_26 : decode cX2_take 26 = .ok (.bastore, 1) := by decide +kernel
theorem dX2_take_27 : decode cX2_take 27 = .ok (.return_, 1) := by decide +kernel
set_option maxRecDepth 20000 in
theorem ggX2_giveBack_X3_load : GoodIn wsX2_giveBack wsX3_load := goodIn_r _ [8, 9, 10, 11, 12, 13, 14, 15, 16, 17, 18, 19, 20, 21, 22, 23, 24, 25, 7, 26, 27, 28, 29, 30, 35, 36, 37, 38, 39, 40, 41, 42, 43, 44, 45, 46, 47, 48, 49] (by decide +kernel) (by decide +kernel)
set_option maxRecDepth 20000 in
theorem gX2_giveBack_X3_load : GoodIn wsX2_giveBack (wsV RX2 34 RX3 yX3_load wsX3_load) := goodIn_app (goodIn_of _ (by decide +kernel)) ggX2_giveBack_X3_load
theorem dX2_giveBack_0 : decode cX2_giveBack 0 = .ok (.aload_n 2, 1) := by decide +kernel
theorem dX2_giveBack_1 : decode cX2_giveBack 1 = .ok (.aload_n 0, 1) := by decide +kernel
theorem dX2_giveBack_2 : decode cX2_giveBack 2 = .ok (.getfield 13, 3) := by decide +kernel
theorem dX2_giveBack_5 : decode cX2_giveBack 5 = .ok (.iload_n 1, 1) := by decide +kernel
theorem dX2_giveBack_6 : decode cX2_giveBack 6 = .ok (.aaload, 1) := by decide +kernel
theorem dX2_giveBack_7 : decode cX2_giveBack 7 = .ok (.invokevirtual 34, 3) := by decide +kernel
theorem dX2_giveBack_10 : decode cX2_giveBack 10 = .ok (.aload_n 3, 1) := by decide +kernel
theorem dX2_giveBack_11 : decode cX2_giveBack 11 = .ok (.aload_n 0, 1) := by decide +kernel
theorem dX2_giveBack_12 : decode cX2_giveBack 12 = .ok (.getfield 16, 3) := by decide +kernel
theorem dX2_giveBack_15 : decode cX2_giveBack 15 = .ok (.iload_n 1, 1) := by decide +kernel
theorem dX2_giveBack_16 : decode cX2_giveBack 16 = .ok (.iaload, 1) := by decide +kernel
theorem dX2_giveBack_17 : decode cX2_giveBack 17 = .ok (.putfield 28, 3) := by decide +kernel
theorem dX2_giveBack_20 : decode cX2_giveBack 20 = .ok (.return_, 1) := by decide +kernel
theorem dX3_init_0 : decode cX3_init 0 = .ok (.aload_n 0, 1) := by decide +kernel
theorem dX3_init_1 : decode cX3_init 1 = .ok (.invokespecial 5, 3) := by decide +kernel
theorem dX3_init_4 : decode cX3_init 4 = .ok (.aload_n 0, 1) := by decide +kernel
theorem dX3_init_5 : decode cX3_init 5 = .ok (.bipush 7, 2) := by decide +kernel
theorem dX3_init_7 : decode cX3_init 7 = .ok (.newarray .int, 2) := by decide +kernel
theorem dX3_init_9 : decode cX3_init 9 = .ok (.putfield 11, 3) := by decide +kernel
theorem dX3_init_12 : decode cX3_init 12 = .ok (.aload_n 0, 1) := by decide +kernel
theorem dX3_init_13 : decode cX3_init 13 = .ok (.bipush 7, 2) := by decide +kernel
theorem dX3_init_15 : decode cX3_init 15 = .ok (.newarray .int, 2) := by decide +kernel
theorem dX3_init_17 : decode cX3_init 17 = .ok (.putfield 15, 3) := by decide +kernel
theorem dX3_init_20 : decode cX3_init 20 = .ok (.aload_n 0, 1) := by decide +kernel
theorem dX3_init_21 : decode cX3_init 21 = .ok (.bipush 7, 2) := by decide +kernel
theorem dX3_init_23 : decode cX3_init 23 = .ok (.newarray .int, 2) := by decide +kernel
theorem dX3_init_25 : decode cX3_init 25 = .ok (.putfield 18, 3) := by decide +kernel
theorem dX3_init_28 : decode cX3_init 28 = .ok (.aload_n 0, 1) := by decide +kernel
theorem dX3_init_29 : decode cX3_init 29 = .ok (.bipush 7, 2) := by decide +kernel
theorem dX3_init_31 : decode cX3_init 31 = .ok (.newarray .int, 2) := by decide +kernel
theorem dX3_init_33 : decode cX3_init 33 = .ok (.putfield 21, 3) := by decide +kernel
theorem dX3_init_36 : decode cX3_init 36 = .ok (.aload_n 0, 1) := by decide +kernel
theorem dX3_init_37 : decode cX3_init 37 = .ok (.bipush 7, 2) := by decide +kernel
theorem dX3_init_39 : decode cX3_init 39 = .ok (.newarray .int, 2) := by decide +kernel
theorem dX3_init_41 : decode cX3_init 41 = .ok (.putfield 24, 3) := by decide +kernel
theorem dX3_init_44 : decode cX3_init 44 = .ok (.aload_n 0, 1) := by decide +kernel
theorem dX3_init_45 : decode cX3_init 45 = .ok (.bipush 7, 2) := by decide +kernel
theorem dX3_init_47 : decode cX3_init 47 = .ok (.newarray .int, 2) := by decide +kernel
theorem dX3_init_49 : decode cX3_init 49 = .ok (.putfield 27, 3) := by decide +kernel
theorem dX3_init_52 : decode cX3_init 52 = .ok (.aload_n 0, 1) := by decide +kernel
theorem dX3_init_53 : decode cX3_init 53 = .ok (.bipush 7, 2) := by decide +kernel
theorem dX3_init_55 : decode cX3_init 55 = .ok (.newarray .int, 2) := by decide +kernel
theorem dX3_init_57 : decode cX3_init 57 = .ok (.putfield 30, 3) := by decide +kernel
theorem dX3_init_60 : decode cX3_init 60 = .ok (.aload_n 0, 1) := by decide +kernel
theorem dX3_init_61 : decode cX3_init 61 = .ok (.bipush 7, 2) := by decide +kernel
theorem dX3_init_63 : decode cX3_init 63 = .ok (.newarray .int, 2) := by decide +kernel
theorem dX3_init_65 : decode cX3_init 65 = .ok (.putfield 33, 3) := by decide +kernel
theorem dX3_init_68 : decode cX3_init 68 = .ok (.aload_n 0, 1) := by decide +kernel
theorem dX3_init_69 : decode cX3_init 69 = .ok (.bipush 6, 2) := by decide +kernel
theorem dX3_init_71 : decode cX3_init 71 = .ok (.newarray .int, 2) := by decide +kernel
theorem dX3_init_73 : decode cX3_init 73 = .ok (.putfield 36, 3) := by decide +kernel
theorem dX3_init_76 : decode cX3_init 76 = .ok (.aload_n 0, 1) := by decide +kernel
theorem dX3_init_77 : decode cX3_init 77 = .ok (.bipush 6, 2) := by decide +kernel
theorem dX3_init_79 : decode cX3_init 79 = .ok (.newarray .int, 2) := by decide +kernel
theorem dX3_init_81 : decode cX3_init 81 = .ok (.putfield 39, 3) := by decide +kernel
theorem dX3_init_84 : decode cX3_init 84 = .ok (.aload_n 0, 1) := by decide +kernel
theorem dX3_init_85 : decode cX3_init 85 = .ok (.bipush 6, 2) := by decide +kernel
theorem dX3_init_87 : decode cX3_init 87 = .ok (.newarray .int, 2) := by decide +kernel
theorem dX3_init_89 : decode cX3_init 89 = .ok (.putfield 42, 3) := by decide +kernel
theorem dX3_init_92 : decode cX3_init 92 = .ok (.aload_n 0, 1) := by decide +kernel
theorem dX3_init_93 : decode cX3_init 93 = .ok (.bipush 6, 2) := by decide +kernel
theorem dX3_init_95 : decode cX3_init 95 = .ok (.newarray .int, 2) := by decide +kernel
theorem dX3_init_97 : decode cX3_init 97 = .ok (.putfield 45, 3) := by decide +kernel
theorem dX3_init_100 : decode cX3_init 100 = .ok (.return_, 1) := by decide +kernel
set_option maxRecDepth 20000 in
theorem ggX3_begin_J7_fill_53178 : GoodIn wsX3_begin wsJ7_fill_53178 := goodIn_r _ [19] (by decide +kernel) (by decide +kernel)
set_option maxRecDepth 20000 in
theorem gX3_begin_J7_fill_53178 : GoodIn wsX3_begin (va_wsS RX3 59 yJ7_fill_53178 wsJ7_fill_53178) := goodIn_app (goodIn_of _ (by decide +kernel)) ggX3_begin_J7_fill_53178
theorem dX3_begin_0 : decode cX3_begin 0 = .ok (.aload_n 0, 1) := by decide +kernel
theorem dX3_begin_1 : decode cX3_begin 1 = .ok (.iload_n 1, 1) := by decide +kernel
theorem dX3_begin_2 : decode cX3_begin 2 = .ok (.putfield 48, 3) := by decide +kernel
theorem dX3_begin_5 : decode cX3_begin 5 = .ok (.aload_n 0, 1) := by decide +kernel
theorem dX3_begin_6 : decode cX3_begin 6 = .ok (.iload_n 2, 1) := by decide +kernel
theorem dX3_begin_7 : decode cX3_begin 7 = .ok (.putfield 52, 3) := by decide +kernel
theorem dX3_begin_10 : decode cX3_begin 10 = .ok (.aload_n 0, 1) := by decide +kernel
theorem dX3_begin_11 : decode cX3_begin 11 = .ok (.iconst 0, 1) := by decide +kernel
theorem dX3_begin_12 : decode cX3_begin 12 = .ok (.putfield 56, 3) := by decide +kernel
theorem dX3_begin_15 : decode cX3_begin 15 = .ok (.aload_n 0, 1) := by decide +kernel
theorem dX3_begin_16 : decode cX3_begin 16 = .ok (.getfield 11, 3) := by decide +kernel
theorem dX3_begin_19 : decode cX3_begin 19 = .ok (.iconst 0, 1) := by decide +kernel
theorem dX3_begin_20 : decode cX3_begin 20 = .ok (.invokestatic 59, 3) := by decide +kernel
theorem dX3_begin_23 : decode cX3_begin 23 = .ok (.aload_n 0, 1) := by decide +kernel
theorem dX3_begin_24 : decode cX3_begin 24 = .ok (.getfield 15, 3) := by decide +kernel
theorem dX3_begin_27 : decode cX3_begin 27 = .ok (.iconst 0, 1) := by decide +kernel
theorem dX3_begin_28 : decode cX3_begin 28 = .ok (.invokestatic 59, 3) := by decide +kernel
theorem dX3_begin_31 : decode cX3_begin 31 = .ok (.aload_n 0, 1) := by decide +kernel
theorem dX3_begin_32 : decode cX3_begin 32 = .ok (.getfield 18, 3) := by decide +kernel
theorem dX3_begin_35 : decode cX3_begin 35 = .ok (.iconst 0, 1) := by decide +kernel
theorem dX3_begin_36 : decode cX3_begin 36 = .ok (.invokestatic 59, 3) := by decide +kernel
theorem dX3_begin_39 : decode cX3_begin 39 = .ok (.aload_n 0, 1) := by decide +kernel
theorem dX3_begin_40 : decode cX3_begin 40 = .ok (.getfield 21, 3) := by decide +kernel
theorem dX3_begin_43 : decode cX3_begin 43 = .ok (.iconst 0, 1) := by decide +kernel
theorem dX3_begin_44 : decode cX3_begin 44 = .ok (.invokestatic 59, 3) := by decide +kernel
theorem dX3_begin_47 : decode cX3_begin 47 = .ok (.aload_n 0, 1) := by decide +kernel
theorem dX3_begin_48 : decode cX3_begin 48 = .ok (.getfield 24, 3) := by decide +kernel
theorem dX3_begin_51 : decode cX3_begin 51 = .ok (.iconst 0, 1) := by decide +kernel
theorem dX3_begin_52 : decode cX3_begin 52 = .ok (.invokestatic 59, 3) := by decide +kernel
theorem dX3_begin_55 : decode cX3_begin 55 = .ok (.aload_n 0, 1) := by decide +kernel
theorem dX3_begin_56 : decode cX3_begin 56 = .ok (.getfield 27, 3) := by decide +kernel
theorem dX3_begin_59 : decode cX3_begin 59 = .ok (.iconst 0, 1) := by decide +kernel
theorem dX3_begin_60 : decode cX3_begin 60 = .ok (.invokestatic 59, 3) := by decide +kernel
theorem dX3_begin_63 : decode cX3_begin 63 = .ok (.aload_n 0, 1) := by decide +kernel
theorem dX3_begin_64 : decode cX3_begin 64 = .ok (.getfield 30, 3) := by decide +kernel
theorem dX3_begin_67 : decode cX3_begin 67 = .ok (.iconst 0, 1) := by decide +kernel
theorem dX3_begin_68 : decode cX3_begin 68 = .ok (.invokestatic 59, 3) := by decide +kernel
theorem dX3_begin_71 : decode cX3_begin 71 = .ok (.aload_n 0, 1) := by decide +kernel
theorem dX3_begin_72 : decode cX3_begin 72 = .ok (.getfield 33, 3) := by decide +kernel
theorem dX3_begin_75 : decode cX3_begin 75 = .ok (.iconst 0, 1) := by decide +kernel
theorem dX3_begin_76 : decode cX3_begin 76 = .ok (.invokestatic 59, 3) := by decide +kernel
theorem dX3_begin_79 : decode cX3_begin 79 = .ok (.aload_n 0, 1) := by decide +kernel
theorem dX3_begin_80 : decode cX3_begin 80 = .ok (.getfield 36, 3) := by decide +kernel
theorem dX3_begin_83 : decode cX3_begin 83 = .ok (.iconst 0, 1) := by decide +kernel
theorem dX3_begin_84 : decode cX3_begin 84 = .ok (.invokestatic 59, 3) := by decide +kernel
theorem dX3_begin_87 : decode cX3_begin 87 = .ok (.aload_n 0, 1) := by decide +kernel
theorem dX3_begin_88 : decode cX3_begin 88 = .ok (.getfield 39, 3) := by decide +kernel
theorem dX3_begin_91 : decode cX3_begin 91 = .ok (.iconst 0, 1) := by decide +kernel
theorem dX3_begin_92 : decode cX3_begin 92 = .ok (.invokestatic 59, 3) := by decide +kernel
theorem dX3_begin_95 : decode cX3_begin 95 = .ok (.aload_n 0, 1) := by decide +kernel
theorem dX3_begin_96 : decode cX3_begin 96 = .ok (.getfield 42, 3) := by decide +kernel
theorem dX3_begin_99 : decode cX3_begin 99 = .ok (.iconst 0, 1) := by decide +kernel
theorem dX3_begin_100 : decode cX3_begin 100 = .ok (.invokestatic 59, 3) := by decide +kernel
theorem dX3_begin_103 : decode cX3_begin 103 = .ok (.aload_n 0, 1) := by decide +kernel
theorem dX3_begin_104 : decode cX3_begin 104 = .ok (.getfield 45, 3) := by decide +kernel
theorem dX3_begin_107 : decode cX3_begin 107 = .ok (.iconst 0, 1) := by decide +kernel
theorem dX3_begin_108 : decode cX3_begin 108 = .ok (.invokestatic 59, 3) := by decide +kernel
theorem dX3_begin_111 : decode cX3_begin 111 = .ok (.return_, 1) := by decide +kernel
theorem dX3_heads_0 : decode cX3_heads 0 = .ok (.aload_n 0, 1) := by decide +kernel
theorem dX3_heads_1 : decode cX3_heads 1 = .ok (.getfield 52, 3) := by decide +kernel
theorem dX3_heads_4 : decode cX3_heads 4 = .ok (.ifCond .eq 10, 3) := by decide +kernel
theorem dX3_heads_7 : decode cX3_heads 7 = .ok (.aload_n 0, 1) := by decide +kernel
theorem dX3_heads_8 : decode cX3_heads 8 = .ok (.getfield 48, 3) := by decide +kernel
theorem dX3_heads_11 : decode cX3_heads 11 = .ok (.goto 9, 3) := by decide +kernel
theorem dX3_heads_14 : decode cX3_heads 14 = .ok (.aload_n 0, 1) := by decide +kernel
theorem dX3_heads_15 : decode cX3_heads 15 = .ok (.getfield 48, 3) := by decide +kernel
theorem dX3_heads_18 : decode cX3_heads 18 = .ok (.iconst 1, 1) := by decide +kernel
theorem dX3_heads_19 : decode cX3_heads 19 = .ok (.iadd, 1) := by decide +kernel
theorem dX3_heads_20 : decode cX3_heads 20 = .ok (.ireturn, 1) := by decide +kernel
theorem dX3_hasSection_0 : decode cX3_hasSection 0 = .ok (.iload_n 1, 1) := by decide +kernel
theorem dX3_hasSection_1 : decode cX3_hasSection 1 = .ok (.ifCond .lt 15, 3) := by decide +kernel
theorem dX3_hasSection_4 : decode cX3_hasSection 4 = .ok (.iload_n 1, 1) := by decide +kernel
theorem dX3_hasSection_5 : decode cX3_hasSection 5 = .ok (.aload_n 0, 1) := by decide +kernel
theorem dX3_hasSection_6 : decode cX3_hasSection 6 = .ok (.getfield 48, 3) := by decide +kernel
theorem dX3_hasSection_9 : decode cX3_hasSection 9 = .ok (.if_icmp .ge 7, 3) := by decide +kernel
theorem dX3_hasSection_12 : decode cX3_hasSection 12 = .ok (.iconst 1, 1) := by decide +kernel
theorem dX3_hasSection_13 : decode cX3_hasSection 13 = .ok (.goto 4, 3) := by decide +kernel
theorem dX3_hasSection_16 : decode cX3_hasSection 16 = .ok (.iconst 0, 1) := by decide +kernel
theorem dX3_hasSection_17 : decode cX3_hasSection 17 = .ok (.ireturn, 1) := by decide +kernel
set_option maxRecDepth 20000 in
theorem ggX3_hasHead_X3_heads : GoodIn wsX3_hasHead wsX3_heads := goodIn_r _ [5, 6, 7, 8, 9, 10, 11, 12, 13, 14, 15, 16, 17, 18, 19, 20, 21, 22] (by decide +kernel) (by decide +kernel)
set_option maxRecDepth 20000 in
theorem gX3_hasHead_X3_heads : GoodIn wsX3_hasHead (wsV RX3 65 RX3 yX3_heads wsX3_heads) := goodIn_app (goodIn_of _ (by decide +kernel)) ggX3_hasHead_X3_heads
theorem dX3_hasHead_0 : decode cX3_hasHead 0 = .ok (.iload_n 1, 1) := by decide +kernel
theorem dX3_hasHead_1 : decode cX3_hasHead 1 = .ok (.ifCond .lt 15, 3) := by decide +kernel
theorem dX3_hasHead_4 : decode cX3_hasHead 4 = .ok (.iload_n 1, 1) := by decide +kernel
theorem dX3_hasHead_5 : decode cX3_hasHead 5 = .ok (.aload_n 0, 1) := by decide +kernel
theorem dX3_hasHead_6 : decode cX3_hasHead 6 = .ok (.invokevirtual 65, 3) := by decide +kernel
theorem dX3_hasHead_9 : decode cX3_hasHead 9 = .ok (.if_icmp .ge 7, 3) := by decide +kernel
theorem dX3_hasHead_12 : decode cX3_hasHead 12 = .ok (.iconst 1, 1) := by decide +kernel
theorem dX3_hasHead_13 : decode cX3_hasHead 13 = .ok (.goto 4, 3) := by decide +kernel
theorem dX3_hasHead_16 : decode cX3_hasHead 16 = .ok (.iconst 0, 1) := by decide +kernel
theorem dX3_hasHead_17 : decode cX3_hasHead 17 = .ok (.ireturn, 1) := by decide +kernel
set_option maxRecDepth 20000 in
theorem ggX3_hasHeads_X3_heads : GoodIn wsX3_hasHeads wsX3_heads := goodIn_r _ [5, 6, 7, 8, 9, 10, 11, 12, 13, 14, 15, 16, 17, 18, 19, 20, 21, 22] (by decide +kernel) (by decide +kernel)
set_option maxRecDepth 20000 in
theorem gX3_hasHeads_X3_heads : GoodIn wsX3_hasHeads (wsV RX3 65 RX3 yX3_heads wsX3_heads) := goodIn_app (goodIn_of _ (by decide +kernel)) ggX3_hasHeads_X3_heads
theorem dX3_hasHeads_0 : decode cX3_hasHeads 0 = .ok (.iload_n 1, 1) := by decide +kernel
theorem dX3_hasHeads_1 : decode cX3_hasHeads 1 = .ok (.aload_n 0, 1) := by decide +kernel
theorem dX3_hasHeads_2 : decode cX3_hasHeads 2 = .ok (.invokevirtual 65, 3) := by decide +kernel
theorem dX3_hasHeads_5 : decode cX3_hasHeads 5 = .ok (.iushr, 1) := by decide +kernel
theorem dX3_hasHeads_6 : decode cX3_hasHeads 6 = .ok (.ifCond .ne 7, 3) := by decide +kernel
theorem dX3_hasHeads_9 : decode cX3_hasHeads 9 = .ok (.iconst 1, 1) := by decide +kernel
theorem dX3_hasHeads_10 : decode cX3_hasHeads 10 = .ok (.goto 4, 3) := by decide +kernel
theorem dX3_hasHeads_13 : decode cX3_hasHeads 13 = .ok (.iconst 0, 1) := by decide +kernel
theorem dX3_hasHeads_14 : decode cX3_hasHeads 14 = .ok (.ireturn, 1) := by decide +kernel
theorem dX3_leftOf_0 : decode cX3_leftOf 0 = .ok (.iload_n 1, 1) := by decide +kernel
theorem dX3_leftOf_1 : decode cX3_leftOf 1 = .ok (.ifCond .le 7, 3) := by decide +kernel
theorem dX3_leftOf_4 : decode cX3_leftOf 4 = .ok (.iload_n 1, 1) := by decide +kernel
theorem dX3_leftOf_5 : decode cX3_leftOf 5 = .ok (.iconst 1, 1) := by decide +kernel
theorem dX3_leftOf_6 : decode cX3_leftOf 6 = .ok (.isub, 1) := by decide +kernel
theorem dX3_leftOf_7 : decode cX3_leftOf 7 = .ok (.ireturn, 1) := by decide +kernel
theorem dX3_leftOf_8 : decode cX3_leftOf 8 = .ok (.aload_n 0, 1) := by decide +kernel
theorem dX3_leftOf_9 : decode cX3_leftOf 9 = .ok (.getfield 52, 3) := by decide +kernel
theorem dX3_leftOf_12 : decode cX3_leftOf 12 = .ok (.ifCond .eq 12, 3) := by decide +kernel
theorem dX3_leftOf_15 : decode cX3_leftOf 15 = .ok (.aload_n 0, 1) := by decide +kernel
theorem dX3_leftOf_16 : decode cX3_leftOf 16 = .ok (.getfield 48, 3) := by decide +kernel
theorem dX3_leftOf_19 : decode cX3_leftOf 19 = .ok (.iconst 1, 1) := by decide +kernel
theorem dX3_leftOf_20 : decode cX3_leftOf 20 = .ok (.isub, 1) := by decide +kernel
theorem dX3_leftOf_21 : decode cX3_leftOf 21 = .ok (.goto 4, 3) := by decide +kernel
theorem dX3_leftOf_24 : decode cX3_leftOf 24 = .ok (.iconst (-1), 1) := by decide +kernel
theorem dX3_leftOf_25 : decode cX3_leftOf 25 = .ok (.ireturn, 1) := by decide +kernel
theorem dX3_rightOf_0 : decode cX3_rightOf 0 = .ok (.iload_n 1, 1) := by decide +kernel
theorem dX3_rightOf_1 : decode cX3_rightOf 1 = .ok (.aload_n 0, 1) := by decide +kernel
theorem dX3_rightOf_2 : decode cX3_rightOf 2 = .ok (.getfield 48, 3) := by decide +kernel
theorem dX3_rightOf_5 : decode cX3_rightOf 5 = .ok (.if_icmp .ge 7, 3) := by decide +kernel
theorem dX3_rightOf_8 : decode cX3_rightOf 8 = .ok (.iload_n 1, 1) := by decide +kernel
theorem dX3_rightOf_9 : decode cX3_rightOf 9 = .ok (.goto 4, 3) := by decide +kernel
theorem dX3_rightOf_12 : decode cX3_rightOf 12 = .ok (.iconst (-1), 1) := by decide +kernel
theorem dX3_rightOf_13 : decode cX3_rightOf 13 = .ok (.ireturn, 1) := by decide +kernel
theorem dX3_rightHead_0 : decode cX3_rightHead 0 = .ok (.aload_n 0, 1) := by decide +kernel
theorem dX3_rightHead_1 : decode cX3_rightHead 1 = .ok (.getfield 52, 3) := by decide +kernel
theorem dX3_rightHead_4 : decode cX3_rightHead 4 = .ok (.ifCond .eq 17, 3) := by decide +kernel
theorem dX3_rightHead_7 : decode cX3_rightHead 7 = .ok (.iload_n 1, 1) := by decide +kernel
theorem dX3_rightHead_8 : decode cX3_rightHead 8 = .ok (.iconst 1, 1) := by decide +kernel
theorem dX3_rightHead_9 : decode cX3_rightHead 9 = .ok (.iadd, 1) := by decide +kernel
theorem dX3_rightHead_10 : decode cX3_rightHead 10 = .ok (.aload_n 0, 1) := by decide +kernel
theorem dX3_rightHead_11 : decode cX3_rightHead 11 = .ok (.getfield 48, 3) := by decide +kernel
theorem dX3_rightHead_14 : decode cX3_rightHead 14 = .ok (.if_icmp .ne 7, 3) := by decide +kernel
theorem dX3_rightHead_17 : decode cX3_rightHead 17 = .ok (.iconst 0, 1) := by decide +kernel
theorem dX3_rightHead_18 : decode cX3_rightHead 18 = .ok (.goto 6, 3) := by decide +kernel
theorem dX3_rightHead_21 : decode cX3_rightHead 21 = .ok (.iload_n 1, 1) := by decide +kernel
theorem dX3_rightHead_22 : decode cX3_rightHead 22 = .ok (.iconst 1, 1) := by decide +kernel
theorem dX3_rightHead_23 : decode cX3_rightHead 23 = .ok (.iadd, 1) := by decide +kernel
theorem dX3_rightHead_24 : decode cX3_rightHead 24 = .ok (.ireturn, 1) := by decide +kernel
set_option maxRecDepth 20000 in
theorem ggX3_joins_X3_leftOf : GoodIn wsX3_joins wsX3_leftOf := goodIn_r _ [5, 6, 7, 16, 17, 18, 19, 20, 21, 22, 23, 24, 25, 26, 27, 28, 29, 30] (by decide +kernel) (by decide +kernel)
set_option maxRecDepth 20000 in
theorem gX3_joins_X3_leftOf : GoodIn wsX3_joins (wsV RX3 69 RX3 yX3_leftOf wsX3_leftOf) := goodIn_app (goodIn_of _ (by decide +kernel)) ggX3_joins_X3_leftOf
set_option maxRecDepth 20000 in
theorem ggX3_joins_X3_rightOf : GoodIn wsX3_joins wsX3_rightOf := goodIn_r _ [11, 7, 16, 17, 18, 19, 20, 21, 22, 23, 24, 25, 26, 27, 28, 29, 30] (by decide +kernel) (by decide +kernel)
set_option maxRecDepth 20000 in
theorem gX3_joins_X3_rightOf : GoodIn wsX3_joins (wsV RX3 73 RX3 yX3_rightOf wsX3_rightOf) := goodIn_app (goodIn_of _ (by decide +kernel)) ggX3_joins_X3_rightOf
set_option maxRecDepth 20000 in
theorem ggX3_joins_X3_hasSection : GoodIn wsX3_joins wsX3_hasSection := goodIn_r _ [15, 7, 16, 17, 18, 19, 20, 21, 22, 23, 24, 25, 26, 27, 28, 29, 30] (by decide +kernel) (by decide +kernel)
set_option maxRecDepth 20000 in
theorem gX3_joins_X3_hasSection : GoodIn wsX3_joins (wsV RX3 76 RX3 yX3_hasSection wsX3_hasSection) := goodIn_app (goodIn_of _ (by decide +kernel)) ggX3_joins_X3_hasSection
theorem dX3_joins_0 : decode cX3_joins 0 = .ok (.aload_n 0, 1) := by decide +kernel
theorem dX3_joins_1 : decode cX3_joins 1 = .ok (.iload_n 1, 1) := by decide +kernel
theorem dX3_joins_2 : decode cX3_joins 2 = .ok (.invokevirtual 69, 3) := by decide +kernel
theorem dX3_joins_5 : decode cX3_joins 5 = .ok (.istore_n 2, 1) := by decide +kernel
theorem dX3_joins_6 : decode cX3_joins 6 = .ok (.aload_n 0, 1) := by decide +kernel
theorem dX3_joins_7 : decode cX3_joins 7 = .ok (.iload_n 1, 1) := by decide +kernel
theorem dX3_joins_8 : decode cX3_joins 8 = .ok (.invokevirtual 73, 3) := by decide +kernel
theorem dX3_joins_11 : decode cX3_joins 11 = .ok (.istore_n 3, 1) := by decide +kernel
theorem dX3_joins_12 : decode cX3_joins 12 = .ok (.aload_n 0, 1) := by decide +kernel
theorem dX3_joins_13 : decode cX3_joins 13 = .ok (.iload_n 2, 1) := by decide +kernel
theorem dX3_joins_14 : decode cX3_joins 14 = .ok (.invokevirtual 76, 3) := by decide +kernel
theorem dX3_joins_17 : decode cX3_joins 17 = .ok (.ifCond .eq 20, 3) := by decide +kernel
theorem dX3_joins_20 : decode cX3_joins 20 = .ok (.aload_n 0, 1) := by decide +kernel
theorem dX3_joins_21 : decode cX3_joins 21 = .ok (.iload_n 3, 1) := by decide +kernel
theorem dX3_joins_22 : decode cX3_joins 22 = .ok (.invokevirtual 76, 3) := by decide +kernel
theorem dX3_joins_25 : decode cX3_joins 25 = .ok (.ifCond .eq 12, 3) := by decide +kernel
theorem dX3_joins_28 : decode cX3_joins 28 = .ok (.iload_n 2, 1) := by decide +kernel
theorem dX3_joins_29 : decode cX3_joins 29 = .ok (.iload_n 3, 1) := by decide +kernel
theorem dX3_joins_30 : decode cX3_joins 30 = .ok (.if_icmp .eq 7, 3) := by decide +kernel
theorem dX3_joins_33 : decode cX3_joins 33 = .ok (.iconst 1, 1) := by decide +kernel
theorem dX3_joins_34 : decode cX3_joins 34 = .ok (.goto 4, 3) := by decide +kernel
theorem dX3_joins_37 : decode cX3_joins 37 = .ok (.iconst 0, 1) := by decide +kernel
theorem dX3_joins_38 : decode cX3_joins 38 = .ok (.ireturn, 1) := by decide +kernel
set_option maxRecDepth 20000 in
theorem ggX3_stepTo_X3_countWheel : GoodIn wsX3_stepTo wsX3_countWheel := goodIn_r _ [9, 4, 10, 11, 12, 13, 14, 15, 16, 17, 18, 19, 20, 21, 22, 23, 24, 25] (by decide +kernel) (by decide +kernel)
set_option maxRecDepth 20000 in
theorem gX3_stepTo_X3_countWheel : GoodIn wsX3_stepTo (wsV RX3 83 RX3 yX3_countWheel wsX3_countWheel) := goodIn_app (goodIn_of _ (by decide +kernel)) ggX3_stepTo_X3_countWheel
theorem dX3_stepTo_0 : decode cX3_stepTo 0 = .ok (.getstatic 80, 3) := by decide +kernel
theorem dX3_stepTo_3 : decode cX3_stepTo 3 = .ok (.iload_n 2, 1) := by decide +kernel
theorem dX3_stepTo_4 : decode cX3_stepTo 4 = .ok (.iconst 3, 1) := by decide +kernel
theorem dX3_stepTo_5 : decode cX3_stepTo 5 = .ok (.iand, 1) := by decide +kernel
theorem dX3_stepTo_6 : decode cX3_stepTo 6 = .ok (.iaload, 1) := by decide +kernel
theorem dX3_stepTo_7 : decode cX3_stepTo 7 = .ok (.getstatic 80, 3) := by decide +kernel
theorem dX3_stepTo_10 : decode cX3_stepTo 10 = .ok (.aload_n 0, 1) := by decide +kernel
theorem dX3_stepTo_11 : decode cX3_stepTo 11 = .ok (.getfield 11, 3) := by decide +kernel
theorem dX3_stepTo_14 : decode cX3_stepTo 14 = .ok (.iload_n 1, 1) := by decide +kernel
theorem dX3_stepTo_15 : decode cX3_stepTo 15 = .ok (.iaload, 1) := by decide +kernel
theorem dX3_stepTo_16 : decode cX3_stepTo 16 = .ok (.iconst 3, 1) := by decide +kernel
theorem dX3_stepTo_17 : decode cX3_stepTo 17 = .ok (.iand, 1) := by decide +kernel
theorem dX3_stepTo_18 : decode cX3_stepTo 18 = .ok (.iaload, 1) := by decide +kernel
theorem dX3_stepTo_19 : decode cX3_stepTo 19 = .ok (.isub, 1) := by decide +kernel
theorem dX3_stepTo_20 : decode cX3_stepTo 20 = .ok (.iconst 3, 1) := by decide +kernel
theorem dX3_stepTo_21 : decode cX3_stepTo 21 = .ok (.iand, 1) := by decide +kernel
theorem dX3_stepTo_22 : decode cX3_stepTo 22 = .ok (.istore_n 3, 1) := by decide +kernel
theorem dX3_stepTo_23 : decode cX3_stepTo 23 = .ok (.iload_n 3, 1) := by decide +kernel
theorem dX3_stepTo_24 : decode cX3_stepTo 24 = .ok (.iconst 2, 1) := by decide +kernel
theorem dX3_stepTo_25 : decode cX3_stepTo 25 = .ok (.if_icmp .ne 12, 3) := by decide +kernel
theorem dX3_stepTo_28 : decode cX3_stepTo 28 = .ok (.aload_n 0, 1) := by decide +kernel
theorem dX3_stepTo_29 : decode cX3_stepTo 29 = .ok (.getfield 21, 3) := by decide +kernel
theorem dX3_stepTo_32 : decode cX3_stepTo 32 = .ok (.iload_n 1, 1) := by decide +kernel
theorem dX3_stepTo_33 : decode cX3_stepTo 33 = .ok (.iconst 1, 1) := by decide +kernel
theorem dX3_stepTo_34 : decode cX3_stepTo 34 = .ok (.iastore, 1) := by decide +kernel
theorem dX3_stepTo_35 : decode cX3_stepTo 35 = .ok (.iconst 3, 1) := by decide +kernel
theorem dX3_stepTo_36 : decode cX3_stepTo 36 = .ok (.ireturn, 1) := by decide +kernel
theorem dX3_stepTo_37 : decode cX3_stepTo 37 = .ok (.aload_n 0, 1) := by decide +kernel
theorem dX3_stepTo_38 : decode cX3_stepTo 38 = .ok (.getfield 11, 3) := by decide +kernel
theorem dX3_stepTo_41 : decode cX3_stepTo 41 = .ok (.iload_n 1, 1) := by decide +kernel
theorem dX3_stepTo_42 : decode cX3_stepTo 42 = .ok (.iload_n 2, 1) := by decide +kernel
theorem dX3_stepTo_43 : decode cX3_stepTo 43 = .ok (.iastore, 1) := by decide +kernel
theorem dX3_stepTo_44 : decode cX3_stepTo 44 = .ok (.aload_n 0, 1) := by decide +kernel
theorem dX3_stepTo_45 : decode cX3_stepTo 45 = .ok (.getfield 15, 3) := by decide +kernel
theorem dX3_stepTo_48 : decode cX3_stepTo 48 = .ok (.iload_n 1, 1) := by decide +kernel
theorem dX3_stepTo_49 : decode cX3_stepTo 49 = .ok (.dup2, 1) := by decide +kernel
theorem dX3_stepTo_50 : decode cX3_stepTo 50 = .ok (.iaload, 1) := by decide +kernel
theorem dX3_stepTo_51 : decode cX3_stepTo 51 = .ok (.iload_n 3, 1) := by decide +kernel
theorem dX3_stepTo_52 : decode cX3_stepTo 52 = .ok (.iconst 1, 1) := by decide +kernel
theorem dX3_stepTo_53 : decode cX3_stepTo 53 = .ok (.if_icmp .ne 7, 3) := by decide +kernel
theorem dX3_stepTo_56 : decode cX3_stepTo 56 = .ok (.iconst 1, 1) := by decide +kernel
theorem dX3_stepTo_57 : decode cX3_stepTo 57 = .ok (.goto 4, 3) := by decide +kernel
theorem dX3_stepTo_60 : decode cX3_stepTo 60 = .ok (.iconst (-1), 1) := by decide +kernel
theorem dX3_stepTo_61 : decode cX3_stepTo 61 = .ok (.iadd, 1) := by decide +kernel
theorem dX3_stepTo_62 : decode cX3_stepTo 62 = .ok (.iastore, 1) := by decide +kernel
theorem dX3_stepTo_63 : decode cX3_stepTo 63 = .ok (.aload_n 0, 1) := by decide +kernel
theorem dX3_stepTo_64 : decode cX3_stepTo 64 = .ok (.iload_n 1, 1) := by decide +kernel
theorem dX3_stepTo_65 : decode cX3_stepTo 65 = .ok (.invokevirtual 83, 3) := by decide +kernel
theorem dX3_stepTo_68 : decode cX3_stepTo 68 = .ok (.ireturn, 1) := by decide +kernel
theorem dX3_countWheel_0 : decode cX3_countWheel 0 = .ok (.aload_n 0, 1) := by decide +kernel
theorem dX3_countWheel_1 : decode cX3_countWheel 1 = .ok (.getfield 15, 3) := by decide +kernel
theorem dX3_countWheel_4 : decode cX3_countWheel 4 = .ok (.iload_n 1, 1) := by decide +kernel
theorem dX3_countWheel_5 : decode cX3_countWheel 5 = .ok (.iaload, 1) := by decide +kernel
theorem dX3_countWheel_6 : decode cX3_countWheel 6 = .ok (.iconst 4, 1) := by decide +kernel
theorem dX3_countWheel_7 : decode cX3_countWheel 7 = .ok (.if_icmp .ne 22, 3) := by decide +kernel
theorem dX3_countWheel_10 : decode cX3_countWheel 10 = .ok (.aload_n 0, 1) := by decide +kernel
theorem dX3_countWheel_11 : decode cX3_countWheel 11 = .ok (.getfield 15, 3) := by decide +kernel
theorem dX3_countWheel_14 : decode cX3_countWheel 14 = .ok (.iload_n 1, 1) := by decide +kernel
theorem dX3_countWheel_15 : decode cX3_countWheel 15 = .ok (.iconst 0, 1) := by decide +kernel
theorem dX3_countWheel_16 : decode cX3_countWheel 16 = .ok (.iastore, 1) := by decide +kernel
theorem dX3_countWheel_17 : decode cX3_countWheel 17 = .ok (.aload_n 0, 1) := by decide +kernel
theorem dX3_countWheel_18 : decode cX3_countWheel 18 = .ok (.getfield 18, 3) := by decide +kernel
theorem dX3_countWheel_21 : decode cX3_countWheel 21 = .ok (.iload_n 1, 1) := by decide +kernel
theorem dX3_countWheel_22 : decode cX3_countWheel 22 = .ok (.dup2, 1) := by decide +kernel
theorem dX3_countWheel_23 : decode cX3_countWheel 23 = .ok (.iaload, 1) := by decide +kernel
theorem dX3_countWheel_24 : decode cX3_countWheel 24 = .ok (.iconst 1, 1) := by decide +kernel
theorem dX3_countWheel_25 : decode cX3_countWheel 25 = .ok (.iadd, 1) := by decide +kernel
theorem dX3_countWheel_26 : decode cX3_countWheel 26 = .ok (.iastore, 1) := by decide +kernel
theorem dX3_countWheel_27 : decode cX3_countWheel 27 = .ok (.iconst 1, 1) := by decide +kernel
theorem dX3_countWheel_28 : decode cX3_countWheel 28 = .ok (.ireturn, 1) := by decide +kernel
theorem dX3_countWheel_29 : decode cX3_countWheel 29 = .ok (.aload_n 0, 1) := by decide +kernel
theorem dX3_countWheel_30 : decode cX3_countWheel 30 = .ok (.getfield 15, 3) := by decide +kernel
theorem dX3_countWheel_33 : decode cX3_countWheel 33 = .ok (.iload_n 1, 1) := by decide +kernel
theorem dX3_countWheel_34 : decode cX3_countWheel 34 = .ok (.iaload, 1) := by decide +kernel
theorem dX3_countWheel_35 : decode cX3_countWheel 35 = .ok (.bipush (-4), 2) := by decide +kernel
theorem dX3_countWheel_37 : decode cX3_countWheel 37 = .ok (.if_icmp .ne 22, 3) := by decide +kernel
theorem dX3_countWheel_40 : decode cX3_countWheel 40 = .ok (.aload_n 0, 1) := by decide +kernel
theorem dX3_countWheel_41 : decode cX3_countWheel 41 = .ok (.getfield 15, 3) := by decide +kernel
theorem dX3_countWheel_44 : decode cX3_countWheel 44 = .ok (.iload_n 1, 1) := by decide +kernel
theorem dX3_countWheel_45 : decode cX3_countWheel 45 = .ok (.iconst 0, 1) := by decide +kernel
theorem dX3_countWheel_46 : decode cX3_countWheel 46 = .ok (.iastore, 1) := by decide +kernel
theorem dX3_countWheel_47 : decode cX3_countWheel 47 = .ok (.aload_n 0, 1) := by decide +kernel
theorem dX3_countWheel_48 : decode cX3_countWheel 48 = .ok (.getfield 18, 3) := by decide +kernel
theorem dX3_countWheel_51 : decode cX3_countWheel 51 = .ok (.iload_n 1, 1) := by decide +kernel
theorem dX3_countWheel_52 : decode cX3_countWheel 52 = .ok (.dup2, 1) := by decide +kernel
theorem dX3_countWheel_53 : decode cX3_countWheel 53 = .ok (.iaload, 1) := by decide +kernel
theorem dX3_countWheel_54 : decode cX3_countWheel 54 = .ok (.iconst 1, 1) := by decide +kernel
theorem dX3_countWheel_55 : decode cX3_countWheel 55 = .ok (.isub, 1) := by decide +kernel
theorem dX3_countWheel_56 : decode cX3_countWheel 56 = .ok (.iastore, 1) := by decide +kernel
theorem dX3_countWheel_57 : decode cX3_countWheel 57 = .ok (.iconst 2, 1) := by decide +kernel
theorem dX3_countWheel_58 : decode cX3_countWheel 58 = .ok (.ireturn, 1) := by decide +kernel
theorem dX3_countWheel_59 : decode cX3_countWheel 59 = .ok (.iconst 0, 1) := by decide +kernel
theorem dX3_countWheel_60 : decode cX3_countWheel 60 = .ok (.ireturn, 1) := by decide +kernel
theorem dX3_feelsAll_0 : decode cX3_feelsAll 0 = .ok (.aload_n 0, 1) := by decide +kernel
theorem dX3_feelsAll_1 : decode cX3_feelsAll 1 = .ok (.getfield 21, 3) := by decide +kernel
theorem dX3_feelsAll_4 : decode cX3_feelsAll 4 = .ok (.iload_n 1, 1) := by decide +kernel
theorem dX3_feelsAll_5 : decode cX3_feelsAll 5 = .ok (.iaload, 1) := by decide +kernel
theorem dX3_feelsAll_6 : decode cX3_feelsAll 6 = .ok (.ifCond .ne 16, 3) := by decide +kernel
theorem dX3_feelsAll_9 : decode cX3_feelsAll 9 = .ok (.aload_n 0, 1) := by decide +kernel
theorem dX3_feelsAll_10 : decode cX3_feelsAll 10 = .ok (.getfield 11, 3) := by decide +kernel
theorem dX3_feelsAll_13 : decode cX3_feelsAll 13 = .ok (.iload_n 1, 1) := by decide +kernel
theorem dX3_feelsAll_14 : decode cX3_feelsAll 14 = .ok (.iaload, 1) := by decide +kernel
theorem dX3_feelsAll_15 : decode cX3_feelsAll 15 = .ok (.ifCond .ne 7, 3) := by decide +kernel
theorem dX3_feelsAll_18 : decode cX3_feelsAll 18 = .ok (.iconst 1, 1) := by decide +kernel
theorem dX3_feelsAll_19 : decode cX3_feelsAll 19 = .ok (.goto 4, 3) := by decide +kernel
theorem dX3_feelsAll_22 : decode cX3_feelsAll 22 = .ok (.iconst 0, 1) := by decide +kernel
theorem dX3_feelsAll_23 : decode cX3_feelsAll 23 = .ok (.ireturn, 1) := by decide +kernel
set_option maxRecDepth 20000 in
theorem ggX3_from_X3_leftOf : GoodIn wsX3_from wsX3_leftOf := goodIn_r _ [5, 6, 7, 12, 13, 14, 15, 16, 17, 18, 19, 20, 21, 22, 23, 24, 25, 26] (by decide +kernel) (by decide +kernel)
set_option maxRecDepth 20000 in
theorem gX3_from_X3_leftOf : GoodIn wsX3_from (wsV RX3 69 RX3 yX3_leftOf wsX3_leftOf) := goodIn_app (goodIn_of _ (by decide +kernel)) ggX3_from_X3_leftOf
set_option maxRecDepth 20000 in
theorem ggX3_from_X3_rightOf : GoodIn wsX3_from wsX3_rightOf := goodIn_r _ [11, 7, 12, 13, 14, 15, 16, 17, 18, 19, 20, 21, 22, 23, 24, 25, 26] (by decide +kernel) (by decide +kernel)
set_option maxRecDepth 20000 in
theorem gX3_from_X3_rightOf : GoodIn wsX3_from (wsV RX3 73 RX3 yX3_rightOf wsX3_rightOf) := goodIn_app (goodIn_of _ (by decide +kernel)) ggX3_from_X3_rightOf
theorem dX3_from_0 : decode cX3_from 0 = .ok (.iload_n 2, 1) := by decide +kernel
theorem dX3_from_1 : decode cX3_from 1 = .ok (.ifCond .ne 11, 3) := by decide +kernel
theorem dX3_from_4 : decode cX3_from 4 = .ok (.aload_n 0, 1) := by decide +kernel
theorem dX3_from_5 : decode cX3_from 5 = .ok (.iload_n 1, 1) := by decide +kernel
theorem dX3_from_6 : decode cX3_from 6 = .ok (.invokevirtual 69, 3) := by decide +kernel
theorem dX3_from_9 : decode cX3_from 9 = .ok (.goto 8, 3) := by decide +kernel
theorem dX3_from_12 : decode cX3_from 12 = .ok (.aload_n 0, 1) := by decide +kernel
theorem dX3_from_13 : decode cX3_from 13 = .ok (.iload_n 1, 1) := by decide +kernel
theorem dX3_from_14 : decode cX3_from 14 = .ok (.invokevirtual 73, 3) := by decide +kernel
theorem dX3_from_17 : decode cX3_from 17 = .ok (.ireturn, 1) := by decide +kernel
set_option maxRecDepth 20000 in
theorem ggX3_canCarry_X3_from : GoodIn wsX3_canCarry wsX3_from := goodIn_r _ [6, 7, 8, 9, 5, 10, 11, 12, 13, 14, 15, 16, 21, 22, 23, 24, 25, 26, 27, 28, 29, 30, 31, 32, 33, 34, 35] (by decide +kernel) (by decide +kernel)
set_option maxRecDepth 20000 in
theorem gX3_canCarry_X3_from : GoodIn wsX3_canCarry (wsV RX3 86 RX3 yX3_from wsX3_from) := goodIn_app (goodIn_of _ (by decide +kernel)) ggX3_canCarry_X3_from
set_option maxRecDepth 20000 in
theorem ggX3_canCarry_X3_hasSection : GoodIn wsX3_canCarry wsX3_hasSection := goodIn_r _ [20, 12, 21, 22, 23, 24, 25, 26, 27, 28, 29, 30, 31, 32, 33, 34, 35] (by decide +kernel) (by decide +kernel)
set_option maxRecDepth 20000 in
theorem gX3_canCarry_X3_hasSection : GoodIn wsX3_canCarry (wsV RX3 76 RX3 yX3_hasSection wsX3_hasSection) := goodIn_app (goodIn_of _ (by decide +kernel)) ggX3_canCarry_X3_hasSection
theorem dX3_canCarry_0 : decode cX3_canCarry 0 = .ok (.aload_n 0, 1) := by decide +kernel
theorem dX3_canCarry_1 : decode cX3_canCarry 1 = .ok (.iload_n 1, 1) := by decide +kernel
theorem dX3_canCarry_2 : decode cX3_canCarry 2 = .ok (.iload_n 2, 1) := by decide +kernel
theorem dX3_canCarry_3 : decode cX3_canCarry 3 = .ok (.invokevirtual 86, 3) := by decide +kernel
theorem dX3_canCarry_6 : decode cX3_canCarry 6 = .ok (.istore 4, 2) := by decide +kernel
theorem dX3_canCarry_8 : decode cX3_canCarry 8 = .ok (.aload_n 0, 1) := by decide +kernel
theorem dX3_canCarry_9 : decode cX3_canCarry 9 = .ok (.iload 4, 2) := by decide +kernel
theorem dX3_canCarry_11 : decode cX3_canCarry 11 = .ok (.invokevirtual 76, 3) := by decide +kernel
theorem dX3_canCarry_14 : decode cX3_canCarry 14 = .ok (.ifCond .eq 14, 3) := by decide +kernel
theorem dX3_canCarry_17 : decode cX3_canCarry 17 = .ok (.aload_n 0, 1) := by decide +kernel
theorem dX3_canCarry_18 : decode cX3_canCarry 18 = .ok (.getfield 45, 3) := by decide +kernel
theorem dX3_canCarry_21 : decode cX3_canCarry 21 = .ok (.iload 4, 2) := by decide +kernel
theorem dX3_canCarry_23 : decode cX3_canCarry 23 = .ok (.iaload, 1) := by decide +kernel
theorem dX3_canCarry_24 : decode cX3_canCarry 24 = .ok (.iload_n 3, 1) := by decide +kernel
theorem dX3_canCarry_25 : decode cX3_canCarry 25 = .ok (.if_icmp .lt 7, 3) := by decide +kernel
theorem dX3_canCarry_28 : decode cX3_canCarry 28 = .ok (.iconst 1, 1) := by decide +kernel
theorem dX3_canCarry_29 : decode cX3_canCarry 29 = .ok (.goto 4, 3) := by decide +kernel
theorem dX3_canCarry_32 : decode cX3_canCarry 32 = .ok (.iconst 0, 1) := by decide +kernel
theorem dX3_canCarry_33 : decode cX3_canCarry 33 = .ok (.ireturn, 1) := by decide +kernel
set_option maxRecDepth 20000 in
theorem ggX3_carry_X3_from : GoodIn wsX3_carry wsX3_from := goodIn_r _ [7, 8, 9, 10, 6, 11, 12, 13, 14, 15, 16, 17, 22, 23, 24, 25, 26, 27, 28, 29, 30, 31, 32, 33, 34, 35, 36] (by decide +kernel) (by decide +kernel)
set_option maxRecDepth 20000 in
theorem gX3_carry_X3_from : GoodIn wsX3_carry (wsV RX3 86 RX3 yX3_from wsX3_from) := goodIn_app (goodIn_of _ (by decide +kernel)) ggX3_carry_X3_from
set_option maxRecDepth 20000 in
theorem ggX3_carry_X3_rightOf : GoodIn wsX3_carry wsX3_rightOf := goodIn_r _ [17, 13, 22, 23, 24, 25, 26, 27, 28, 29, 30, 31, 32, 33, 34, 35, 36] (by decide +kernel) (by decide +kernel)
set_option maxRecDepth 20000 in
theorem gX3_carry_X3_rightOf : GoodIn wsX3_carry (wsV RX3 73 RX3 yX3_rightOf wsX3_rightOf) := goodIn_app (goodIn_of _ (by decide +kernel)) ggX3_carry_X3_rightOf
set_option maxRecDepth 20000 in
theorem ggX3_carry_X3_leftOf : GoodIn wsX3_carry wsX3_leftOf := goodIn_r _ [11, 12, 13, 22, 23, 24, 25, 26, 27, 28, 29, 30, 31, 32, 33, 34, 35, 36] (by decide +kernel) (by decide +kernel)
set_option maxRecDepth 20000 in
theorem gX3_carry_X3_leftOf : GoodIn wsX3_carry (wsV RX3 69 RX3 yX3_leftOf wsX3_leftOf) := goodIn_app (goodIn_of _ (by decide +kernel)) ggX3_carry_X3_leftOf
set_option maxRecDepth 20000 in
theorem ggX3_carry_X3_hasSection : GoodIn wsX3_carry wsX3_hasSection := goodIn_r _ [21, 13, 22, 23, 24, 25, 26, 27, 28, 29, 30, 31, 32, 33, 34, 35, 36] (by decide +kernel) (by decide +kernel)
set_option maxRecDepth 20000 in
theorem gX3_carry_X3_hasSection : GoodIn wsX3_carry (wsV RX3 76 RX3 yX3_hasSection wsX3_hasSection) := goodIn_app (goodIn_of _ (by decide +kernel)) ggX3_carry_X3_hasSection
theorem dX3_carry_0 : decode cX3_carry 0 = .ok (.aload_n 0, 1) := by decide +kernel
theorem dX3_carry_1 : decode cX3_carry 1 = .ok (.iload_n 1, 1) := by decide +kernel
theorem dX3_carry_2 : decode cX3_carry 2 = .ok (.iload_n 2, 1) := by decide +kernel
theorem dX3_carry_3 : decode cX3_carry 3 = .ok (.invokevirtual 86, 3) := by decide +kernel
theorem dX3_carry_6 : decode cX3_carry 6 = .ok (.istore 5, 2) := by decide +kernel
theorem dX3_carry_8 : decode cX3_carry 8 = .ok (.iload_n 2, 1) := by decide +kernel
theorem dX3_carry_9 : decode cX3_carry 9 = .ok (.ifCond .ne 11, 3) := by decide +kernel
theorem dX3_carry_12 : decode cX3_carry 12 = .ok (.aload_n 0, 1) := by decide +kernel
theorem dX3_carry_13 : decode cX3_carry 13 = .ok (.iload_n 1, 1) := by decide +kernel
theorem dX3_carry_14 : decode cX3_carry 14 = .ok (.invokevirtual 73, 3) := by decide +kernel
theorem dX3_carry_17 : decode cX3_carry 17 = .ok (.goto 8, 3) := by decide +kernel
theorem dX3_carry_20 : decode cX3_carry 20 = .ok (.aload_n 0, 1) := by decide +kernel
theorem dX3_carry_21 : decode cX3_carry 21 = .ok (.iload_n 1, 1) := by decide +kernel
theorem dX3_carry_22 : decode cX3_carry 22 = .ok (.invokevirtual 69, 3) := by decide +kernel
theorem dX3_carry_25 : decode cX3_carry 25 = .ok (.istore 6, 2) := by decide +kernel
theorem dX3_carry_27 : decode cX3_carry 27 = .ok (.iload 4, 2) := by decide +kernel
theorem dX3_carry_29 : decode cX3_carry 29 = .ok (.ifCond .eq 22, 3) := by decide +kernel
theorem dX3_carry_32 : decode cX3_carry 32 = .ok (.aload_n 0, 1) := by decide +kernel
theorem dX3_carry_33 : decode cX3_carry 33 = .ok (.getfield 18, 3) := by decide +kernel
theorem dX3_carry_36 : decode cX3_carry 36 = .ok (.iload_n 1, 1) := by decide +kernel
theorem dX3_carry_37 : decode cX3_carry 37 = .ok (.dup2, 1) := by decide +kernel
theorem dX3_carry_38 : decode cX3_carry 38 = .ok (.iaload, 1) := by decide +kernel
theorem dX3_carry_39 : decode cX3_carry 39 = .ok (.iload_n 2, 1) := by decide +kernel
theorem dX3_carry_40 : decode cX3_carry 40 = .ok (.ifCond .ne 7, 3) := by decide +kernel
theorem dX3_carry_43 : decode cX3_carry 43 = .ok (.iload_n 3, 1) := by decide +kernel
theorem dX3_carry_44 : decode cX3_carry 44 = .ok (.goto 5, 3) := by decide +kernel
theorem dX3_carry_47 : decode cX3_carry 47 = .ok (.iload_n 3, 1) := by decide +kernel
theorem dX3_carry_48 : decode cX3_carry 48 = .ok (.ineg, 1) := by decide +kernel
theorem dX3_carry_49 : decode cX3_carry 49 = .ok (.iadd, 1) := by decide +kernel
theorem dX3_carry_50 : decode cX3_carry 50 = .ok (.iastore, 1) := by decide +kernel
theorem dX3_carry_51 : decode cX3_carry 51 = .ok (.aload_n 0, 1) := by decide +kernel
theorem dX3_carry_52 : decode cX3_carry 52 = .ok (.iload 5, 2) := by decide +kernel
theorem dX3_carry_54 : decode cX3_carry 54 = .ok (.invokevirtual 76, 3) := by decide +kernel
theorem dX3_carry_57 : decode cX3_carry 57 = .ok (.ifCond .eq 14, 3) := by decide +kernel
theorem dX3_carry_60 : decode cX3_carry 60 = .ok (.aload_n 0, 1) := by decide +kernel
theorem dX3_carry_61 : decode cX3_carry 61 = .ok (.getfield 45, 3) := by decide +kernel
theorem dX3_carry_64 : decode cX3_carry 64 = .ok (.iload 5, 2) := by decide +kernel
theorem dX3_carry_66 : decode cX3_carry 66 = .ok (.dup2, 1) := by decide +kernel
theorem dX3_carry_67 : decode cX3_carry 67 = .ok (.iaload, 1) := by decide +kernel
theorem dX3_carry_68 : decode cX3_carry 68 = .ok (.iload_n 3, 1) := by decide +kernel
theorem dX3_carry_69 : decode cX3_carry 69 = .ok (.isub, 1) := by decide +kernel
theorem dX3_carry_70 : decode cX3_carry 70 = .ok (.iastore, 1) := by decide +kernel
theorem dX3_carry_71 : decode cX3_carry 71 = .ok (.aload_n 0, 1) := by decide +kernel
theorem dX3_carry_72 : decode cX3_carry 72 = .ok (.iload 6, 2) := by decide +kernel
theorem dX3_carry_74 : decode cX3_carry 74 = .ok (.invokevirtual 76, 3) := by decide +kernel
theorem dX3_carry_77 : decode cX3_carry 77 = .ok (.ifCond .ne 5, 3) := by decide +kernel
theorem dX3_carry_80 : decode cX3_carry 80 = .ok (.iconst 0, 1) := by decide +kernel
theorem dX3_carry_81 : decode cX3_carry 81 = .ok (.ireturn, 1) := by decide +kernel
theorem dX3_carry_82 : decode cX3_carry 82 = .ok (.aload_n 0, 1) := by decide +kernel
theorem dX3_carry_83 : decode cX3_carry 83 = .ok (.getfield 45, 3) := by decide +kernel
theorem dX3_carry_86 : decode cX3_carry 86 = .ok (.iload 6, 2) := by decide +kernel
theorem dX3_carry_88 : decode cX3_carry 88 = .ok (.dup2, 1) := by decide +kernel
theorem dX3_carry_89 : decode cX3_carry 89 = .ok (.iaload, 1) := by decide +kernel
theorem dX3_carry_90 : decode cX3_carry 90 = .ok (.iload_n 3, 1) := by decide +kernel
theorem dX3_carry_91 : decode cX3_carry 91 = .ok (.iadd, 1) := by decide +kernel
theorem dX3_carry_92 : decode cX3_carry 92 = .ok (.iastore, 1) := by decide +kernel
theorem dX3_carry_93 : decode cX3_carry 93 = .ok (.aload_n 0, 1) := by decide +kernel
theorem dX3_carry_94 : decode cX3_carry 94 = .ok (.getfield 45, 3) := by decide +kernel
theorem dX3_carry_97 : decode cX3_carry 97 = .ok (.iload 6, 2) := by decide +kernel
theorem dX3_carry_99 : decode cX3_carry 99 = .ok (.iaload, 1) := by decide +kernel
theorem dX3_carry_100 : decode cX3_carry 100 = .ok (.ireturn, 1) := by decide +kernel
theorem dX3_mend_0 : decode cX3_mend 0 = .ok (.aload_n 0, 1) := by decide +kernel
theorem dX3_mend_1 : decode cX3_mend 1 = .ok (.getfield 21, 3) := by decide +kernel
theorem dX3_mend_4 : decode cX3_mend 4 = .ok (.iload_n 1, 1) := by decide +kernel
theorem dX3_mend_5 : decode cX3_mend 5 = .ok (.iconst 0, 1) := by decide +kernel
theorem dX3_mend_6 : decode cX3_mend 6 = .ok (.iastore, 1) := by decide +kernel
theorem dX3_mend_7 : decode cX3_mend 7 = .ok (.aload_n 0, 1) := by decide +kernel
theorem dX3_mend_8 : decode cX3_mend 8 = .ok (.getfield 11, 3) := by decide +kernel
theorem dX3_mend_11 : decode cX3_mend 11 = .ok (.iload_n 1, 1) := by decide +kernel
theorem dX3_mend_12 : decode cX3_mend 12 = .ok (.iconst 0, 1) := by decide +kernel
theorem dX3_mend_13 : decode cX3_mend 13 = .ok (.iastore, 1) := by decide +kernel
theorem dX3_mend_14 : decode cX3_mend 14 = .ok (.aload_n 0, 1) := by decide +kernel
theorem dX3_mend_15 : decode cX3_mend 15 = .ok (.getfield 15, 3) := by decide +kernel
theorem dX3_mend_18 : decode cX3_mend 18 = .ok (.iload_n 1, 1) := by decide +kernel
theorem dX3_mend_19 : decode cX3_mend 19 = .ok (.iconst 0, 1) := by decide +kernel
theorem dX3_mend_20 : decode cX3_mend 20 = .ok (.iastore, 1) := by decide +kernel
theorem dX3_mend_21 : decode cX3_mend 21 = .ok (.return_, 1) := by decide +kernel
set_option maxRecDepth 20000 in
theorem ggX3_pass_X3_hear : GoodIn wsX3_pass wsX3_hear := goodIn_r _ [7, 8, 9, 10, 11, 6, 12, 13, 1, 14, 15, 16, 17, 18, 19, 20, 21, 22, 23, 24, 25, 26, 27, 28, 29, 30, 31, 32, 33, 34, 35, 36, 37, 38, 86, 87, 88, 89, 90, 91, 92, 93, 94, 95, 96, 97, 98, 99, 100] (by decide +kernel) (by decide +kernel)
set_option maxRecDepth 20000 in
theorem gX3_pass_X3_hear : GoodIn wsX3_pass (wsV RX3 90 RX3 yX3_hear wsX3_hear) := goodIn_app (goodIn_of _ (by decide +kernel)) ggX3_pass_X3_hear
set_option maxRecDepth 20000 in
theorem ggX3_pass_X3_judge : GoodIn wsX3_pass wsX3_judge := goodIn_r _ [42, 43, 30, 44, 45, 46, 6, 47, 48, 49, 50, 51, 52, 53, 54, 55, 20, 8, 56, 57, 58, 59, 13, 1, 60, 61, 62, 63, 64, 86, 87, 88, 89, 90, 91, 92, 93, 94, 95, 96, 97, 98, 99, 100] (by decide +kernel) (by decide +kernel)
set_option maxRecDepth 20000 in
theorem gX3_pass_X3_judge : GoodIn wsX3_pass (wsV RX3 94 RX3 yX3_judge wsX3_judge) := goodIn_app (goodIn_of _ (by decide +kernel)) ggX3_pass_X3_judge
set_option maxRecDepth 20000 in
theorem ggX3_pass_X3_heads : GoodIn wsX3_pass wsX3_heads := goodIn_r _ [12, 13, 1, 86, 87, 88, 89, 90, 91, 92, 93, 94, 95, 96, 97, 98, 99, 100] (by decide +kernel) (by decide +kernel)
set_option maxRecDepth 20000 in
theorem gX3_pass_X3_heads : GoodIn wsX3_pass (wsV RX3 65 RX3 yX3_heads wsX3_heads) := goodIn_app (goodIn_of _ (by decide +kernel)) ggX3_pass_X3_heads
set_option maxRecDepth 20000 in
theorem ggX3_pass_X3_joins : GoodIn wsX3_pass wsX3_joins := goodIn_r _ [68, 35, 36, 37, 6, 38, 13, 1, 22, 23, 24, 25, 31, 32, 33, 34, 86, 87, 88, 89, 90, 91, 92, 93, 94, 95, 96, 97, 98, 99, 100] (by decide +kernel) (by decide +kernel)
set_option maxRecDepth 20000 in
theorem gX3_pass_X3_joins : GoodIn wsX3_pass (wsV RX3 97 RX3 yX3_joins wsX3_joins) := goodIn_app (goodIn_of _ (by decide +kernel)) ggX3_pass_X3_joins
set_option maxRecDepth 20000 in
theorem ggX3_pass_X3_leftOf : GoodIn wsX3_pass wsX3_leftOf := goodIn_r _ [38, 13, 1, 86, 87, 88, 89, 90, 91, 92, 93, 94, 95, 96, 97, 98, 99, 100] (by decide +kernel) (by decide +kernel)
set_option maxRecDepth 20000 in
theorem gX3_pass_X3_leftOf : GoodIn wsX3_pass (wsV RX3 69 RX3 yX3_leftOf wsX3_leftOf) := goodIn_app (goodIn_of _ (by decide +kernel)) ggX3_pass_X3_leftOf
set_option maxRecDepth 20000 in
theorem ggX3_pass_X3_rightOf : GoodIn wsX3_pass wsX3_rightOf := goodIn_r _ [25, 1, 86, 87, 88, 89, 90, 91, 92, 93, 94, 95, 96, 97, 98, 99, 100] (by decide +kernel) (by decide +kernel)
set_option maxRecDepth 20000 in
theorem gX3_pass_X3_rightOf : GoodIn wsX3_pass (wsV RX3 73 RX3 yX3_rightOf wsX3_rightOf) := goodIn_app (goodIn_of _ (by decide +kernel)) ggX3_pass_X3_rightOf
set_option maxRecDepth 20000 in
theorem ggX3_pass_X3_judgeJoint : GoodIn wsX3_pass wsX3_judgeJoint := goodIn_r _ [72, 43, 73, 74, 75, 76, 6, 77, 30, 35, 36, 37, 38, 13, 1, 22, 23, 24, 25, 31, 32, 33, 34, 78, 79, 80, 81, 48, 49, 50, 51, 52, 53, 54, 55, 20, 8, 56, 57, 58, 59, 82, 83, 84, 85, 86, 87, 88, 89, 90, 91, 92, 93, 94, 95, 96, 97, 98, 99, 100] (by decide +kernel) (by decide +kernel)
set_option maxRecDepth 20000 in
theorem gX3_pass_X3_judgeJoint : GoodIn wsX3_pass (wsV RX3 100 RX3 yX3_judgeJoint wsX3_judgeJoint) := goodIn_app (goodIn_of _ (by decide +kernel)) ggX3_pass_X3_judgeJoint
theorem dX3_pass_0 : decode cX3_pass 0 = .ok (.aload_n 0, 1) := by decide +kernel
theorem dX3_pass_1 : decode cX3_pass 1 = .ok (.iload_n 1, 1) := by decide +kernel
theorem dX3_pass_2 : decode cX3_pass 2 = .ok (.invokevirtual 90, 3) := by decide +kernel
theorem dX3_pass_5 : decode cX3_pass 5 = .ok (.iconst 0, 1) := by decide +kernel
theorem dX3_pass_6 : decode cX3_pass 6 = .ok (.istore_n 2, 1) := by decide +kernel
theorem dX3_pass_7 : decode cX3_pass 7 = .ok (.iload_n 2, 1) := by decide +kernel
theorem dX3_pass_8 : decode cX3_pass 8 = .ok (.aload_n 0, 1) := by decide +kernel
theorem dX3_pass_9 : decode cX3_pass 9 = .ok (.getfield 48, 3) := by decide +kernel
theorem dX3_pass_12 : decode cX3_pass 12 = .ok (.if_icmp .ge 14, 3) := by decide +kernel
theorem dX3_pass_15 : decode cX3_pass 15 = .ok (.aload_n 0, 1) := by decide +kernel
theorem dX3_pass_16 : decode cX3_pass 16 = .ok (.iload_n 2, 1) := by decide +kernel
theorem dX3_pass_17 : decode cX3_pass 17 = .ok (.invokevirtual 94, 3) := by decide +kernel
theorem dX3_pass_20 : decode cX3_pass 20 = .ok (.iinc 2 1, 3) := by decide +kernel
theorem dX3_pass_23 : decode cX3_pass 23 = .ok (.goto (-16), 3) := by decide +kernel
theorem dX3_pass_26 : decode cX3_pass 26 = .ok (.iconst 0, 1) := by decide +kernel
theorem dX3_pass_27 : decode cX3_pass 27 = .ok (.istore_n 2, 1) := by decide +kernel
theorem dX3_pass_28 : decode cX3_pass 28 = .ok (.iload_n 2, 1) := by decide +kernel
theorem dX3_pass_29 : decode cX3_pass 29 = .ok (.aload_n 0, 1) := by decide +kernel
theorem dX3_pass_30 : decode cX3_pass 30 = .ok (.invokevirtual 65, 3) := by decide +kernel
theorem dX3_pass_33 : decode cX3_pass 33 = .ok (.if_icmp .ge 32, 3) := by decide +kernel
theorem dX3_pass_36 : decode cX3_pass 36 = .ok (.aload_n 0, 1) := by decide +kernel
theorem dX3_pass_37 : decode cX3_pass 37 = .ok (.iload_n 2, 1) := by decide +kernel
theorem dX3_pass_38 : decode cX3_pass 38 = .ok (.invokevirtual 97, 3) := by decide +kernel
theorem dX3_pass_41 : decode cX3_pass 41 = .ok (.ifCond .eq 18, 3) := by decide +kernel
theorem dX3_pass_44 : decode cX3_pass 44 = .ok (.aload_n 0, 1) := by decide +kernel
theorem dX3_pass_45 : decode cX3_pass 45 = .ok (.iload_n 2, 1) := by decide +kernel
theorem dX3_pass_46 : decode cX3_pass 46 = .ok (.aload_n 0, 1) := by decide +kernel
theorem dX3_pass_47 : decode cX3_pass 47 = .ok (.iload_n 2, 1) := by decide +kernel
theorem dX3_pass_48 : decode cX3_pass 48 = .ok (.invokevirtual 69, 3) := by decide +kernel
theorem dX3_pass_51 : decode cX3_pass 51 = .ok (.aload_n 0, 1) := by decide +kernel
theorem dX3_pass_52 : decode cX3_pass 52 = .ok (.iload_n 2, 1) := by decide +kernel
theorem dX3_pass_53 : decode cX3_pass 53 = .ok (.invokevirtual 73, 3) := by decide +kernel
theorem dX3_pass_56 : decode cX3_pass 56 = .ok (.invokevirtual 100, 3) := by decide +kernel
theorem dX3_pass_59 : decode cX3_pass 59 = .ok (.iinc 2 1, 3) := by decide +kernel
theorem dX3_pass_62 : decode cX3_pass 62 = .ok (.goto (-34), 3) := by decide +kernel
theorem dX3_pass_65 : decode cX3_pass 65 = .ok (.aload_n 0, 1) := by decide +kernel
theorem dX3_pass_66 : decode cX3_pass 66 = .ok (.getfield 56, 3) := by decide +kernel
theorem dX3_pass_69 : decode cX3_pass 69 = .ok (.sipush 9999, 3) := by decide +kernel
theorem dX3_pass_72 : decode cX3_pass 72 = .ok (.if_icmp .ge 13, 3) := by decide +kernel
theorem dX3_pass_75 : decode cX3_pass 75 = .ok (.aload_n 0, 1) := by decide +kernel
theorem dX3_pass_76 : decode cX3_pass 76 = .ok (.dup, 1) := by decide +kernel
theorem dX3_pass_77 : decode cX3_pass 77 = .ok (.getfield 56, 3) := by decide +kernel
theorem dX3_pass_80 : decode cX3_pass 80 = .ok (.iconst 1, 1) := by decide +kernel
theorem dX3_pass_81 : decode cX3_pass 81 = .ok (.iadd, 1) := by decide +kernel
theorem dX3_pass_82 : decode cX3_pass 82 = .ok (.putfield 56, 3) := by decide +kernel
theorem dX3_pass_85 : decode cX3_pass 85 = .ok (.return_, 1) := by decide +kernel
set_option maxRecDepth 20000 in
theorem ggX3_hear_X3_heads : GoodIn wsX3_hear wsX3_heads := goodIn_r _ [6, 7, 8, 34, 35, 36, 37, 38, 39, 40, 41, 42, 43, 44, 45, 46, 47, 48] (by decide +kernel) (by decide +kernel)
set_option maxRecDepth 20000 in
theorem gX3_hear_X3_heads : GoodIn wsX3_hear (wsV RX3 65 RX3 yX3_heads wsX3_heads) := goodIn_app (goodIn_of _ (by decide +kernel)) ggX3_hear_X3_heads
set_option maxRecDepth 20000 in
theorem ggX3_hear_X3_receive : GoodIn wsX3_hear wsX3_receive := goodIn_r _ [12, 13, 14, 15, 16, 1, 17, 18, 19, 5, 20, 8, 21, 22, 23, 24, 25, 26, 27, 28, 29, 30, 31, 32, 33, 7, 34, 35, 36, 37, 38, 39, 40, 41, 42, 43, 44, 45, 46, 47, 48] (by decide +kernel) (by decide +kernel)
set_option maxRecDepth 20000 in
theorem gX3_hear_X3_receive : GoodIn wsX3_hear (wsV RX3 104 RX3 yX3_receive wsX3_receive) := goodIn_app (goodIn_of _ (by decide +kernel)) ggX3_hear_X3_receive
theorem dX3_hear_0 : decode cX3_hear 0 = .ok (.iconst 0, 1) := by decide +kernel
theorem dX3_hear_1 : decode cX3_hear 1 = .ok (.istore_n 2, 1) := by decide +kernel
theorem dX3_hear_2 : decode cX3_hear 2 = .ok (.iload_n 2, 1) := by decide +kernel
theorem dX3_hear_3 : decode cX3_hear 3 = .ok (.aload_n 0, 1) := by decide +kernel
theorem dX3_hear_4 : decode cX3_hear 4 = .ok (.invokevirtual 65, 3) := by decide +kernel
theorem dX3_hear_7 : decode cX3_hear 7 = .ok (.if_icmp .ge 46, 3) := by decide +kernel
theorem dX3_hear_10 : decode cX3_hear 10 = .ok (.iload_n 1, 1) := by decide +kernel
theorem dX3_hear_11 : decode cX3_hear 11 = .ok (.iload_n 2, 1) := by decide +kernel
theorem dX3_hear_12 : decode cX3_hear 12 = .ok (.ishr, 1) := by decide +kernel
theorem dX3_hear_13 : decode cX3_hear 13 = .ok (.iconst 1, 1) := by decide +kernel
theorem dX3_hear_14 : decode cX3_hear 14 = .ok (.iand, 1) := by decide +kernel
theorem dX3_hear_15 : decode cX3_hear 15 = .ok (.ifCond .ne 11, 3) := by decide +kernel
theorem dX3_hear_18 : decode cX3_hear 18 = .ok (.aload_n 0, 1) := by decide +kernel
theorem dX3_hear_19 : decode cX3_hear 19 = .ok (.iload_n 2, 1) := by decide +kernel
theorem dX3_hear_20 : decode cX3_hear 20 = .ok (.invokevirtual 104, 3) := by decide +kernel
theorem dX3_hear_23 : decode cX3_hear 23 = .ok (.goto 24, 3) := by decide +kernel
theorem dX3_hear_26 : decode cX3_hear 26 = .ok (.aload_n 0, 1) := by decide +kernel
theorem dX3_hear_27 : decode cX3_hear 27 = .ok (.getfield 30, 3) := by decide +kernel
theorem dX3_hear_30 : decode cX3_hear 30 = .ok (.iload_n 2, 1) := by decide +kernel
theorem dX3_hear_31 : decode cX3_hear 31 = .ok (.iaload, 1) := by decide +kernel
theorem dX3_hear_32 : decode cX3_hear 32 = .ok (.bipush 99, 2) := by decide +kernel
theorem dX3_hear_34 : decode cX3_hear 34 = .ok (.if_icmp .ge 13, 3) := by decide +kernel
theorem dX3_hear_37 : decode cX3_hear 37 = .ok (.aload_n 0, 1) := by decide +kernel
theorem dX3_hear_38 : decode cX3_hear 38 = .ok (.getfield 30, 3) := by decide +kernel
theorem dX3_hear_41 : decode cX3_hear 41 = .ok (.iload_n 2, 1) := by decide +kernel
theorem dX3_hear_42 : decode cX3_hear 42 = .ok (.dup2, 1) := by decide +kernel
theorem dX3_hear_43 : decode cX3_hear 43 = .ok (.iaload, 1) := by decide +kernel
theorem dX3_hear_44 : decode cX3_hear 44 = .ok (.iconst 1, 1) := by decide +kernel
theorem dX3_hear_45 : decode cX3_hear 45 = .ok (.iadd, 1) := by decide +kernel
theorem dX3_hear_46 : decode cX3_hear 46 = .ok (.iastore, 1) := by decide +kernel
theorem dX3_hear_47 : decode cX3_hear 47 = .ok (.iinc 2 1, 3) := by decide +kernel
theorem dX3_hear_50 : decode cX3_hear 50 = .ok (.goto (-48), 3) := by decide +kernel
theorem dX3_hear_53 : decode cX3_hear 53 = .ok (.return_, 1) := by decide +kernel
set_option maxRecDepth 20000 in
theorem ggX3_receive_X3_rightOf : GoodIn wsX3_receive wsX3_rightOf := goodIn_r _ [10, 11, 26, 27, 28, 29, 30, 31, 32, 33, 34, 35, 36, 37, 38, 39, 40] (by decide +kernel) (by decide +kernel)
set_option maxRecDepth 20000 in
theorem gX3_receive_X3_rightOf : GoodIn wsX3_receive (wsV RX3 73 RX3 yX3_rightOf wsX3_rightOf) := goodIn_app (goodIn_of _ (by decide +kernel)) ggX3_receive_X3_rightOf
set_option maxRecDepth 20000 in
theorem ggX3_receive_X3_addToSum : GoodIn wsX3_receive wsX3_addToSum := goodIn_r _ [15, 16, 17, 18, 19, 9, 20, 11, 26, 27, 28, 29, 30, 31, 32, 33, 34, 35, 36, 37, 38, 39, 40] (by decide +kernel) (by decide +kernel)
set_option maxRecDepth 20000 in
theorem gX3_receive_X3_addToSum : GoodIn wsX3_receive (wsV RX3 107 RX3 yX3_addToSum wsX3_addToSum) := goodIn_app (goodIn_of _ (by decide +kernel)) ggX3_receive_X3_addToSum
set_option maxRecDepth 20000 in
theorem ggX3_receive_X3_leftOf : GoodIn wsX3_receive wsX3_leftOf := goodIn_r _ [24, 25, 11, 26, 27, 28, 29, 30, 31, 32, 33, 34, 35, 36, 37, 38, 39, 40] (by decide +kernel) (by decide +kernel)
set_option maxRecDepth 20000 in
theorem gX3_receive_X3_leftOf : GoodIn wsX3_receive (wsV RX3 69 RX3 yX3_leftOf wsX3_leftOf) := goodIn_app (goodIn_of _ (by decide +kernel)) ggX3_receive_X3_leftOf
theorem dX3_receive_0 : decode cX3_receive 0 = .ok (.aload_n 0, 1) := by decide +kernel
theorem dX3_receive_1 : decode cX3_receive 1 = .ok (.getfield 18, 3) := by decide +kernel
theorem dX3_receive_4 : decode cX3_receive 4 = .ok (.iload_n 1, 1) := by decide +kernel
theorem dX3_receive_5 : decode cX3_receive 5 = .ok (.iaload, 1) := by decide +kernel
theorem dX3_receive_6 : decode cX3_receive 6 = .ok (.bipush 15, 2) := by decide +kernel
theorem dX3_receive_8 : decode cX3_receive 8 = .ok (.iand, 1) := by decide +kernel
theorem dX3_receive_9 : decode cX3_receive 9 = .ok (.istore_n 2, 1) := by decide +kernel
theorem dX3_receive_10 : decode cX3_receive 10 = .ok (.iload_n 2, 1) := by decide +kernel
theorem dX3_receive_11 : decode cX3_receive 11 = .ok (.aload_n 0, 1) := by decide +kernel
theorem dX3_receive_12 : decode cX3_receive 12 = .ok (.getfield 24, 3) := by decide +kernel
theorem dX3_receive_15 : decode cX3_receive 15 = .ok (.iload_n 1, 1) := by decide +kernel
theorem dX3_receive_16 : decode cX3_receive 16 = .ok (.iaload, 1) := by decide +kernel
theorem dX3_receive_17 : decode cX3_receive 17 = .ok (.isub, 1) := by decide +kernel
theorem dX3_receive_18 : decode cX3_receive 18 = .ok (.bipush 15, 2) := by decide +kernel
theorem dX3_receive_20 : decode cX3_receive 20 = .ok (.iand, 1) := by decide +kernel
theorem dX3_receive_21 : decode cX3_receive 21 = .ok (.istore_n 3, 1) := by decide +kernel
theorem dX3_receive_22 : decode cX3_receive 22 = .ok (.iload_n 3, 1) := by decide +kernel
theorem dX3_receive_23 : decode cX3_receive 23 = .ok (.bipush 8, 2) := by decide +kernel
theorem dX3_receive_25 : decode cX3_receive 25 = .ok (.if_icmp .le 6, 3) := by decide +kernel
theorem dX3_receive_28 : decode cX3_receive 28 = .ok (.iinc 3 (-16), 3) := by decide +kernel
theorem dX3_receive_31 : decode cX3_receive 31 = .ok (.aload_n 0, 1) := by decide +kernel
theorem dX3_receive_32 : decode cX3_receive 32 = .ok (.aload_n 0, 1) := by decide +kernel
theorem dX3_receive_33 : decode cX3_receive 33 = .ok (.iload_n 1, 1) := by decide +kernel
theorem dX3_receive_34 : decode cX3_receive 34 = .ok (.invokevirtual 73, 3) := by decide +kernel
theorem dX3_receive_37 : decode cX3_receive 37 = .ok (.iload_n 3, 1) := by decide +kernel
theorem dX3_receive_38 : decode cX3_receive 38 = .ok (.invokevirtual 107, 3) := by decide +kernel
theorem dX3_receive_41 : decode cX3_receive 41 = .ok (.aload_n 0, 1) := by decide +kernel
theorem dX3_receive_42 : decode cX3_receive 42 = .ok (.aload_n 0, 1) := by decide +kernel
theorem dX3_receive_43 : decode cX3_receive 43 = .ok (.iload_n 1, 1) := by decide +kernel
theorem dX3_receive_44 : decode cX3_receive 44 = .ok (.invokevirtual 69, 3) := by decide +kernel
theorem dX3_receive_47 : decode cX3_receive 47 = .ok (.iload_n 3, 1) := by decide +kernel
theorem dX3_receive_48 : decode cX3_receive 48 = .ok (.ineg, 1) := by decide +kernel
theorem dX3_receive_49 : decode cX3_receive 49 = .ok (.invokevirtual 107, 3) := by decide +kernel
theorem dX3_receive_52 : decode cX3_receive 52 = .ok (.aload_n 0, 1) := by decide +kernel
theorem dX3_receive_53 : decode cX3_receive 53 = .ok (.getfield 24, 3) := by decide +kernel
theorem dX3_receive_56 : decode cX3_receive 56 = .ok (.iload_n 1, 1) := by decide +kernel
theorem dX3_receive_57 : decode cX3_receive 57 = .ok (.iload_n 2, 1) := by decide +kernel
theorem dX3_receive_58 : decode cX3_receive 58 = .ok (.iastore, 1) := by decide +kernel
theorem dX3_receive_59 : decode cX3_receive 59 = .ok (.aload_n 0, 1) := by decide +kernel
theorem dX3_receive_60 : decode cX3_receive 60 = .ok (.getfield 27, 3) := by decide +kernel
theorem dX3_receive_63 : decode cX3_receive 63 = .ok (.iload_n 1, 1) := by decide +kernel
theorem dX3_receive_64 : decode cX3_receive 64 = .ok (.aload_n 0, 1) := by decide +kernel
theorem dX3_receive_65 : decode cX3_receive 65 = .ok (.getfield 21, 3) := by decide +kernel
theorem dX3_receive_68 : decode cX3_receive 68 = .ok (.iload_n 1, 1) := by decide +kernel
theorem dX3_receive_69 : decode cX3_receive 69 = .ok (.iaload, 1) := by decide +kernel
theorem dX3_receive_70 : decode cX3_receive 70 = .ok (.iastore, 1) := by decide +kernel
theorem dX3_receive_71 : decode cX3_receive 71 = .ok (.aload_n 0, 1) := by decide +kernel
theorem dX3_receive_72 : decode cX3_receive 72 = .ok (.getfield 30, 3) := by decide +kernel
theorem dX3_receive_75 : decode cX3_receive 75 = .ok (.iload_n 1, 1) := by decide +kernel
theorem dX3_receive_76 : decode cX3_receive 76 = .ok (.iconst 0, 1) := by decide +kernel
theorem dX3_receive_77 : decode cX3_receive 77 = .ok (.iastore, 1) := by decide +kernel
theorem dX3_receive_78 : decode cX3_receive 78 = .ok (.return_, 1) := by decide +kernel
set_option maxRecDepth 20000 in
theorem ggX3_addToSum_X3_hasSection : GoodIn wsX3_addToSum wsX3_hasSection := goodIn_r _ [6, 7, 8, 9, 10, 11, 12, 13, 14, 15, 16, 17, 18, 19, 20, 21, 22] (by decide +kernel) (by decide +kernel)
set_option maxRecDepth 20000 in
theorem gX3_addToSum_X3_hasSection : GoodIn wsX3_addToSum (wsV RX3 76 RX3 yX3_hasSection wsX3_hasSection) := goodIn_app (goodIn_of _ (by decide +kernel)) ggX3_addToSum_X3_hasSection
theorem dX3_addToSum_0 : decode cX3_addToSum 0 = .ok (.aload_n 0, 1) := by decide +kernel
theorem dX3_addToSum_1 : decode cX3_addToSum 1 = .ok (.iload_n 1, 1) := by decide +kernel
theorem dX3_addToSum_2 : decode cX3_addToSum 2 = .ok (.invokevirtual 76, 3) := by decide +kernel
theorem dX3_addToSum_5 : decode cX3_addToSum 5 = .ok (.ifCond .eq 13, 3) := by decide +kernel
theorem dX3_addToSum_8 : decode cX3_addToSum 8 = .ok (.aload_n 0, 1) := by decide +kernel
theorem dX3_addToSum_9 : decode cX3_addToSum 9 = .ok (.getfield 36, 3) := by decide +kernel
theorem dX3_addToSum_12 : decode cX3_addToSum 12 = .ok (.iload_n 1, 1) := by decide +kernel
theorem dX3_addToSum_13 : decode cX3_addToSum 13 = .ok (.dup2, 1) := by decide +kernel
theorem dX3_addToSum_14 : decode cX3_addToSum 14 = .ok (.iaload, 1) := by decide +kernel
theorem dX3_addToSum_15 : decode cX3_addToSum 15 = .ok (.iload_n 2, 1) := by decide +kernel
theorem dX3_addToSum_16 : decode cX3_addToSum 16 = .ok (.iadd, 1) := by decide +kernel
theorem dX3_addToSum_17 : decode cX3_addToSum 17 = .ok (.iastore, 1) := by decide +kernel
theorem dX3_addToSum_18 : decode cX3_addToSum 18 = .ok (.return_, 1) := by decide +kernel
set_option maxRecDepth 20000 in
theorem ggX3_judge_X3_hasTrouble : GoodIn wsX3_judge wsX3_hasTrouble := goodIn_r _ [7, 2, 8, 9, 10, 6, 11, 12, 13, 14, 15, 16, 17, 18, 19, 20, 21, 22, 23, 29, 30, 31, 32, 33, 34, 35, 36, 37, 38, 39, 40, 41, 42, 43] (by decide +kernel) (by decide +kernel)
set_option maxRecDepth 20000 in
theorem gX3_judge_X3_hasTrouble : GoodIn wsX3_judge (wsV RX3 111 RX3 yX3_hasTrouble wsX3_hasTrouble) := goodIn_app (goodIn_of _ (by decide +kernel)) ggX3_judge_X3_hasTrouble
set_option maxRecDepth 20000 in
theorem ggX3_judge_X3_judgeSweep : GoodIn wsX3_judge wsX3_judgeSweep := goodIn_r _ [27, 2, 28, 1, 29, 30, 31, 32, 33, 34, 35, 36, 37, 38, 39, 40, 41, 42, 43] (by decide +kernel) (by decide +kernel)
set_option maxRecDepth 20000 in
theorem gX3_judge_X3_judgeSweep : GoodIn wsX3_judge (wsV RX3 114 RX3 yX3_judgeSweep wsX3_judgeSweep) := goodIn_app (goodIn_of _ (by decide +kernel)) ggX3_judge_X3_judgeSweep
theorem dX3_judge_0 : decode cX3_judge 0 = .ok (.aload_n 0, 1) := by decide +kernel
theorem dX3_judge_1 : decode cX3_judge 1 = .ok (.iload_n 1, 1) := by decide +kernel
theorem dX3_judge_2 : decode cX3_judge 2 = .ok (.invokevirtual 111, 3) := by decide +kernel
theorem dX3_judge_5 : decode cX3_judge 5 = .ok (.ifCond .eq 13, 3) := by decide +kernel
theorem dX3_judge_8 : decode cX3_judge 8 = .ok (.aload_n 0, 1) := by decide +kernel
theorem dX3_judge_9 : decode cX3_judge 9 = .ok (.getfield 39, 3) := by decide +kernel
theorem dX3_judge_12 : decode cX3_judge 12 = .ok (.iload_n 1, 1) := by decide +kernel
theorem dX3_judge_13 : decode cX3_judge 13 = .ok (.iconst 2, 1) := by decide +kernel
theorem dX3_judge_14 : decode cX3_judge 14 = .ok (.iastore, 1) := by decide +kernel
theorem dX3_judge_15 : decode cX3_judge 15 = .ok (.goto 51, 3) := by decide +kernel
theorem dX3_judge_18 : decode cX3_judge 18 = .ok (.aload_n 0, 1) := by decide +kernel
theorem dX3_judge_19 : decode cX3_judge 19 = .ok (.getfield 39, 3) := by decide +kernel
theorem dX3_judge_22 : decode cX3_judge 22 = .ok (.iload_n 1, 1) := by decide +kernel
theorem dX3_judge_23 : decode cX3_judge 23 = .ok (.iaload, 1) := by decide +kernel
theorem dX3_judge_24 : decode cX3_judge 24 = .ok (.iconst 3, 1) := by decide +kernel
theorem dX3_judge_25 : decode cX3_judge 25 = .ok (.if_icmp .ne 11, 3) := by decide +kernel
theorem dX3_judge_28 : decode cX3_judge 28 = .ok (.aload_n 0, 1) := by decide +kernel
theorem dX3_judge_29 : decode cX3_judge 29 = .ok (.iload_n 1, 1) := by decide +kernel
theorem dX3_judge_30 : decode cX3_judge 30 = .ok (.invokevirtual 114, 3) := by decide +kernel
theorem dX3_judge_33 : decode cX3_judge 33 = .ok (.goto 33, 3) := by decide +kernel
theorem dX3_judge_36 : decode cX3_judge 36 = .ok (.aload_n 0, 1) := by decide +kernel
theorem dX3_judge_37 : decode cX3_judge 37 = .ok (.getfield 39, 3) := by decide +kernel
theorem dX3_judge_40 : decode cX3_judge 40 = .ok (.iload_n 1, 1) := by decide +kernel
theorem dX3_judge_41 : decode cX3_judge 41 = .ok (.iaload, 1) := by decide +kernel
theorem dX3_judge_42 : decode cX3_judge 42 = .ok (.iconst 2, 1) := by decide +kernel
theorem dX3_judge_43 : decode cX3_judge 43 = .ok (.if_icmp .eq 23, 3) := by decide +kernel
theorem dX3_judge_46 : decode cX3_judge 46 = .ok (.aload_n 0, 1) := by decide +kernel
theorem dX3_judge_47 : decode cX3_judge 47 = .ok (.getfield 39, 3) := by decide +kernel
theorem dX3_judge_50 : decode cX3_judge 50 = .ok (.iload_n 1, 1) := by decide +kernel
theorem dX3_judge_51 : decode cX3_judge 51 = .ok (.aload_n 0, 1) := by decide +kernel
theorem dX3_judge_52 : decode cX3_judge 52 = .ok (.getfield 36, 3) := by decide +kernel
theorem dX3_judge_55 : decode cX3_judge 55 = .ok (.iload_n 1, 1) := by decide +kernel
theorem dX3_judge_56 : decode cX3_judge 56 = .ok (.iaload, 1) := by decide +kernel
theorem dX3_judge_57 : decode cX3_judge 57 = .ok (.ifCond .le 7, 3) := by decide +kernel
theorem dX3_judge_60 : decode cX3_judge 60 = .ok (.iconst 1, 1) := by decide +kernel
theorem dX3_judge_61 : decode cX3_judge 61 = .ok (.goto 4, 3) := by decide +kernel
theorem dX3_judge_64 : decode cX3_judge 64 = .ok (.iconst 0, 1) := by decide +kernel
theorem dX3_judge_65 : decode cX3_judge 65 = .ok (.iastore, 1) := by decide +kernel
theorem dX3_judge_66 : decode cX3_judge 66 = .ok (.return_, 1) := by decide +kernel
theorem dX3_judgeSweep_0 : decode cX3_judgeSweep 0 = .ok (.aload_n 0, 1) := by decide +kernel
theorem dX3_judgeSweep_1 : decode cX3_judgeSweep 1 = .ok (.getfield 36, 3) := by decide +kernel
theorem dX3_judgeSweep_4 : decode cX3_judgeSweep 4 = .ok (.iload_n 1, 1) := by decide +kernel
theorem dX3_judgeSweep_5 : decode cX3_judgeSweep 5 = .ok (.iaload, 1) := by decide +kernel
theorem dX3_judgeSweep_6 : decode cX3_judgeSweep 6 = .ok (.ifCond .le 13, 3) := by decide +kernel
theorem dX3_judgeSweep_9 : decode cX3_judgeSweep 9 = .ok (.aload_n 0, 1) := by decide +kernel
theorem dX3_judgeSweep_10 : decode cX3_judgeSweep 10 = .ok (.getfield 42, 3) := by decide +kernel
theorem dX3_judgeSweep_13 : decode cX3_judgeSweep 13 = .ok (.iload_n 1, 1) := by decide +kernel
theorem dX3_judgeSweep_14 : decode cX3_judgeSweep 14 = .ok (.iconst 1, 1) := by decide +kernel
theorem dX3_judgeSweep_15 : decode cX3_judgeSweep 15 = .ok (.iastore, 1) := by decide +kernel
theorem dX3_judgeSweep_16 : decode cX3_judgeSweep 16 = .ok (.goto 20, 3) := by decide +kernel
theorem dX3_judgeSweep_19 : decode cX3_judgeSweep 19 = .ok (.aload_n 0, 1) := by decide +kernel
theorem dX3_judgeSweep_20 : decode cX3_judgeSweep 20 = .ok (.getfield 42, 3) := by decide +kernel
theorem dX3_judgeSweep_23 : decode cX3_judgeSweep 23 = .ok (.iload_n 1, 1) := by decide +kernel
theorem dX3_judgeSweep_24 : decode cX3_judgeSweep 24 = .ok (.iaload, 1) := by decide +kernel
theorem dX3_judgeSweep_25 : decode cX3_judgeSweep 25 = .ok (.iconst 1, 1) := by decide +kernel
theorem dX3_judgeSweep_26 : decode cX3_judgeSweep 26 = .ok (.if_icmp .ne 10, 3) := by decide +kernel
theorem dX3_judgeSweep_29 : decode cX3_judgeSweep 29 = .ok (.aload_n 0, 1) := by decide +kernel
theorem dX3_judgeSweep_30 : decode cX3_judgeSweep 30 = .ok (.getfield 39, 3) := by decide +kernel
theorem dX3_judgeSweep_33 : decode cX3_judgeSweep 33 = .ok (.iload_n 1, 1) := by decide +kernel
theorem dX3_judgeSweep_34 : decode cX3_judgeSweep 34 = .ok (.iconst 0, 1) := by decide +kernel
theorem dX3_judgeSweep_35 : decode cX3_judgeSweep 35 = .ok (.iastore, 1) := by decide +kernel
theorem dX3_judgeSweep_36 : decode cX3_judgeSweep 36 = .ok (.return_, 1) := by decide +kernel
set_option maxRecDepth 20000 in
theorem ggX3_hasTrouble_X3_hasBadHead : GoodIn wsX3_hasTrouble wsX3_hasBadHead := goodIn_r _ [6, 7, 8, 9, 5, 10, 11, 12, 13, 14, 15, 16, 17, 18, 19, 20, 21, 22, 23, 24, 25, 26, 27, 28, 29, 30, 31, 32, 33] (by decide +kernel) (by decide +kernel)
set_option maxRecDepth 20000 in
theorem gX3_hasTrouble_X3_hasBadHead : GoodIn wsX3_hasTrouble (wsV RX3 117 RX3 yX3_hasBadHead wsX3_hasBadHead) := goodIn_app (goodIn_of _ (by decide +kernel)) ggX3_hasTrouble_X3_hasBadHead
theorem dX3_hasTrouble_0 : decode cX3_hasTrouble 0 = .ok (.aload_n 0, 1) := by decide +kernel
theorem dX3_hasTrouble_1 : decode cX3_hasTrouble 1 = .ok (.getfield 36, 3) := by decide +kernel
theorem dX3_hasTrouble_4 : decode cX3_hasTrouble 4 = .ok (.iload_n 1, 1) := by decide +kernel
theorem dX3_hasTrouble_5 : decode cX3_hasTrouble 5 = .ok (.iaload, 1) := by decide +kernel
theorem dX3_hasTrouble_6 : decode cX3_hasTrouble 6 = .ok (.ifCond .lt 11, 3) := by decide +kernel
theorem dX3_hasTrouble_9 : decode cX3_hasTrouble 9 = .ok (.aload_n 0, 1) := by decide +kernel
theorem dX3_hasTrouble_10 : decode cX3_hasTrouble 10 = .ok (.iload_n 1, 1) := by decide +kernel
theorem dX3_hasTrouble_11 : decode cX3_hasTrouble 11 = .ok (.invokevirtual 117, 3) := by decide +kernel
theorem dX3_hasTrouble_14 : decode cX3_hasTrouble 14 = .ok (.ifCond .eq 7, 3) := by decide +kernel
theorem dX3_hasTrouble_17 : decode cX3_hasTrouble 17 = .ok (.iconst 1, 1) := by decide +kernel
theorem dX3_hasTrouble_18 : decode cX3_hasTrouble 18 = .ok (.goto 4, 3) := by decide +kernel
theorem dX3_hasTrouble_21 : decode cX3_hasTrouble 21 = .ok (.iconst 0, 1) := by decide +kernel
theorem dX3_hasTrouble_22 : decode cX3_hasTrouble 22 = .ok (.ireturn, 1) := by decide +kernel
set_option maxRecDepth 20000 in
theorem ggX3_hasBadHead_X3_isBad : GoodIn wsX3_hasBadHead wsX3_isBad := goodIn_r _ [5, 6, 7, 14, 15, 16, 17, 18, 19, 20, 21, 22, 23, 24, 25, 26, 27, 28] (by decide +kernel) (by decide +kernel)
set_option maxRecDepth 20000 in
theorem gX3_hasBadHead_X3_isBad : GoodIn wsX3_hasBadHead (wsV RX3 120 RX3 yX3_isBad wsX3_isBad) := goodIn_app (goodIn_of _ (by decide +kernel)) ggX3_hasBadHead_X3_isBad
set_option maxRecDepth 20000 in
theorem ggX3_hasBadHead_X3_rightHead : GoodIn wsX3_hasBadHead wsX3_rightHead := goodIn_r _ [11, 12, 13, 14, 15, 16, 17, 18, 19, 20, 21, 22, 23, 24, 25, 26, 27, 28] (by decide +kernel) (by decide +kernel)
set_option maxRecDepth 20000 in
theorem gX3_hasBadHead_X3_rightHead : GoodIn wsX3_hasBadHead (wsV RX3 123 RX3 yX3_rightHead wsX3_rightHead) := goodIn_app (goodIn_of _ (by decide +kernel)) ggX3_hasBadHead_X3_rightHead
theorem dX3_hasBadHead_0 : decode cX3_hasBadHead 0 = .ok (.aload_n 0, 1) := by decide +kernel
theorem dX3_hasBadHead_1 : decode cX3_hasBadHead 1 = .ok (.iload_n 1, 1) := by decide +kernel
theorem dX3_hasBadHead_2 : decode cX3_hasBadHead 2 = .ok (.invokevirtual 120, 3) := by decide +kernel
theorem dX3_hasBadHead_5 : decode cX3_hasBadHead 5 = .ok (.ifCond .ne 15, 3) := by decide +kernel
theorem dX3_hasBadHead_8 : decode cX3_hasBadHead 8 = .ok (.aload_n 0, 1) := by decide +kernel
theorem dX3_hasBadHead_9 : decode cX3_hasBadHead 9 = .ok (.aload_n 0, 1) := by decide +kernel
theorem dX3_hasBadHead_10 : decode cX3_hasBadHead 10 = .ok (.iload_n 1, 1) := by decide +kernel
theorem dX3_hasBadHead_11 : decode cX3_hasBadHead 11 = .ok (.invokevirtual 123, 3) := by decide +kernel
theorem dX3_hasBadHead_14 : decode cX3_hasBadHead 14 = .ok (.invokevirtual 120, 3) := by decide +kernel
theorem dX3_hasBadHead_17 : decode cX3_hasBadHead 17 = .ok (.ifCond .eq 7, 3) := by decide +kernel
theorem dX3_hasBadHead_20 : decode cX3_hasBadHead 20 = .ok (.iconst 1, 1) := by decide +kernel
theorem dX3_hasBadHead_21 : decode cX3_hasBadHead 21 = .ok (.goto 4, 3) := by decide +kernel
theorem dX3_hasBadHead_24 : decode cX3_hasBadHead 24 = .ok (.iconst 0, 1) := by decide +kernel
theorem dX3_hasBadHead_25 : decode cX3_hasBadHead 25 = .ok (.ireturn, 1) := by decide +kernel
theorem dX3_isBad_0 : decode cX3_isBad 0 = .ok (.aload_n 0, 1) := by decide +kernel
theorem dX3_isBad_1 : decode cX3_isBad 1 = .ok (.getfield 27, 3) := by decide +kernel
theorem dX3_isBad_4 : decode cX3_isBad 4 = .ok (.iload_n 1, 1) := by decide +kernel
theorem dX3_isBad_5 : decode cX3_isBad 5 = .ok (.iaload, 1) := by decide +kernel
theorem dX3_isBad_6 : decode cX3_isBad 6 = .ok (.iconst 1, 1) := by decide +kernel
theorem dX3_isBad_7 : decode cX3_isBad 7 = .ok (.if_icmp .eq 13, 3) := by decide +kernel
theorem dX3_isBad_10 : decode cX3_isBad 10 = .ok (.aload_n 0, 1) := by decide +kernel
theorem dX3_isBad_11 : decode cX3_isBad 11 = .ok (.getfield 30, 3) := by decide +kernel
theorem dX3_isBad_14 : decode cX3_isBad 14 = .ok (.iload_n 1, 1) := by decide +kernel
theorem dX3_isBad_15 : decode cX3_isBad 15 = .ok (.iaload, 1) := by decide +kernel
theorem dX3_isBad_16 : decode cX3_isBad 16 = .ok (.iconst 3, 1) := by decide +kernel
theorem dX3_isBad_17 : decode cX3_isBad 17 = .ok (.if_icmp .le 7, 3) := by decide +kernel
theorem dX3_isBad_20 : decode cX3_isBad 20 = .ok (.iconst 1, 1) := by decide +kernel
theorem dX3_isBad_21 : decode cX3_isBad 21 = .ok (.goto 4, 3) := by decide +kernel
theorem dX3_isBad_24 : decode cX3_isBad 24 = .ok (.iconst 0, 1) := by decide +kernel
theorem dX3_isBad_25 : decode cX3_isBad 25 = .ok (.ireturn, 1) := by decide +kernel
set_option maxRecDepth 20000 in
theorem ggX3_judgeJoint_X3_joint : GoodIn wsX3_judgeJoint wsX3_joint := goodIn_r _ [7, 8, 9, 10, 11, 6, 12, 13, 14, 15, 16, 17, 18, 19, 20, 21, 22, 45, 46, 47, 48, 49, 50, 51, 52, 53, 54, 55, 56, 57, 58, 59] (by decide +kernel) (by decide +kernel)
set_option maxRecDepth 20000 in
theorem gX3_judgeJoint_X3_joint : GoodIn wsX3_judgeJoint (wsV RX3 126 RX3 yX3_joint wsX3_joint) := goodIn_app (goodIn_of _ (by decide +kernel)) ggX3_judgeJoint_X3_joint
set_option maxRecDepth 20000 in
theorem ggX3_judgeJoint_X3_canHeal : GoodIn wsX3_judgeJoint wsX3_canHeal := goodIn_r _ [26, 2, 3, 4, 5, 6, 7, 8, 9, 10, 11, 12, 13, 14, 15, 16, 17, 18, 19, 20, 21, 22, 27, 28, 29, 30, 31, 32, 33, 34, 35, 36, 37, 38, 39, 40, 45, 46, 47, 48, 49, 50, 51, 52, 53, 54, 55, 56, 57, 58, 59] (by decide +kernel) (by decide +kernel)
set_option maxRecDepth 20000 in
theorem gX3_judgeJoint_X3_canHeal : GoodIn wsX3_judgeJoint (wsV RX3 129 RX3 yX3_canHeal wsX3_canHeal) := goodIn_app (goodIn_of _ (by decide +kernel)) ggX3_judgeJoint_X3_canHeal
set_option maxRecDepth 20000 in
theorem ggX3_judgeJoint_X3_heal : GoodIn wsX3_judgeJoint wsX3_heal := goodIn_r _ [44, 8, 1, 2, 45, 46, 47, 48, 49, 50, 51, 52, 53, 54, 55, 56, 57, 58, 59] (by decide +kernel) (by decide +kernel)
set_option maxRecDepth 20000 in
theorem gX3_judgeJoint_X3_heal : GoodIn wsX3_judgeJoint (wsV RX3 133 RX3 yX3_heal wsX3_heal) := goodIn_app (goodIn_of _ (by decide +kernel)) ggX3_judgeJoint_X3_heal
theorem dX3_judgeJoint_0 : decode cX3_judgeJoint 0 = .ok (.aload_n 0, 1) := by decide +kernel
theorem dX3_judgeJoint_1 : decode cX3_judgeJoint 1 = .ok (.getfield 39, 3) := by decide +kernel
theorem dX3_judgeJoint_4 : decode cX3_judgeJoint 4 = .ok (.iload_n 2, 1) := by decide +kernel
theorem dX3_judgeJoint_5 : decode cX3_judgeJoint 5 = .ok (.iaload, 1) := by decide +kernel
theorem dX3_judgeJoint_6 : decode cX3_judgeJoint 6 = .ok (.iconst 2, 1) := by decide +kernel
theorem dX3_judgeJoint_7 : decode cX3_judgeJoint 7 = .ok (.if_icmp .eq 23, 3) := by decide +kernel
theorem dX3_judgeJoint_10 : decode cX3_judgeJoint 10 = .ok (.aload_n 0, 1) := by decide +kernel
theorem dX3_judgeJoint_11 : decode cX3_judgeJoint 11 = .ok (.getfield 39, 3) := by decide +kernel
theorem dX3_judgeJoint_14 : decode cX3_judgeJoint 14 = .ok (.iload_n 3, 1) := by decide +kernel
theorem dX3_judgeJoint_15 : decode cX3_judgeJoint 15 = .ok (.iaload, 1) := by decide +kernel
theorem dX3_judgeJoint_16 : decode cX3_judgeJoint 16 = .ok (.iconst 2, 1) := by decide +kernel
theorem dX3_judgeJoint_17 : decode cX3_judgeJoint 17 = .ok (.if_icmp .eq 13, 3) := by decide +kernel
theorem dX3_judgeJoint_20 : decode cX3_judgeJoint 20 = .ok (.aload_n 0, 1) := by decide +kernel
theorem dX3_judgeJoint_21 : decode cX3_judgeJoint 21 = .ok (.getfield 33, 3) := by decide +kernel
theorem dX3_judgeJoint_24 : decode cX3_judgeJoint 24 = .ok (.iload_n 1, 1) := by decide +kernel
theorem dX3_judgeJoint_25 : decode cX3_judgeJoint 25 = .ok (.iconst 0, 1) := by decide +kernel
theorem dX3_judgeJoint_26 : decode cX3_judgeJoint 26 = .ok (.iastore, 1) := by decide +kernel
theorem dX3_judgeJoint_27 : decode cX3_judgeJoint 27 = .ok (.goto 38, 3) := by decide +kernel
theorem dX3_judgeJoint_30 : decode cX3_judgeJoint 30 = .ok (.aload_n 0, 1) := by decide +kernel
theorem dX3_judgeJoint_31 : decode cX3_judgeJoint 31 = .ok (.iload_n 1, 1) := by decide +kernel
theorem dX3_judgeJoint_32 : decode cX3_judgeJoint 32 = .ok (.invokevirtual 126, 3) := by decide +kernel
theorem dX3_judgeJoint_35 : decode cX3_judgeJoint 35 = .ok (.ifCond .le 13, 3) := by decide +kernel
theorem dX3_judgeJoint_38 : decode cX3_judgeJoint 38 = .ok (.aload_n 0, 1) := by decide +kernel
theorem dX3_judgeJoint_39 : decode cX3_judgeJoint 39 = .ok (.getfield 33, 3) := by decide +kernel
theorem dX3_judgeJoint_42 : decode cX3_judgeJoint 42 = .ok (.iload_n 1, 1) := by decide +kernel
theorem dX3_judgeJoint_43 : decode cX3_judgeJoint 43 = .ok (.iconst 1, 1) := by decide +kernel
theorem dX3_judgeJoint_44 : decode cX3_judgeJoint 44 = .ok (.iastore, 1) := by decide +kernel
theorem dX3_judgeJoint_45 : decode cX3_judgeJoint 45 = .ok (.goto 20, 3) := by decide +kernel
theorem dX3_judgeJoint_48 : decode cX3_judgeJoint 48 = .ok (.aload_n 0, 1) := by decide +kernel
theorem dX3_judgeJoint_49 : decode cX3_judgeJoint 49 = .ok (.iload_n 1, 1) := by decide +kernel
theorem dX3_judgeJoint_50 : decode cX3_judgeJoint 50 = .ok (.iload_n 2, 1) := by decide +kernel
theorem dX3_judgeJoint_51 : decode cX3_judgeJoint 51 = .ok (.iload_n 3, 1) := by decide +kernel
theorem dX3_judgeJoint_52 : decode cX3_judgeJoint 52 = .ok (.invokevirtual 129, 3) := by decide +kernel
theorem dX3_judgeJoint_55 : decode cX3_judgeJoint 55 = .ok (.ifCond .eq 10, 3) := by decide +kernel
theorem dX3_judgeJoint_58 : decode cX3_judgeJoint 58 = .ok (.aload_n 0, 1) := by decide +kernel
theorem dX3_judgeJoint_59 : decode cX3_judgeJoint 59 = .ok (.iload_n 1, 1) := by decide +kernel
theorem dX3_judgeJoint_60 : decode cX3_judgeJoint 60 = .ok (.iload_n 2, 1) := by decide +kernel
theorem dX3_judgeJoint_61 : decode cX3_judgeJoint 61 = .ok (.iload_n 3, 1) := by decide +kernel
theorem dX3_judgeJoint_62 : decode cX3_judgeJoint 62 = .ok (.invokevirtual 133, 3) := by decide +kernel
theorem dX3_judgeJoint_65 : decode cX3_judgeJoint 65 = .ok (.return_, 1) := by decide +kernel
set_option maxRecDepth 20000 in
theorem ggX3_canHeal_X3_joint : GoodIn wsX3_canHeal wsX3_joint := goodIn_r _ [6, 7, 8, 9, 10, 5, 11, 12, 13, 14, 15, 16, 17, 18, 19, 20, 21, 36, 37, 38, 39, 40, 41, 42, 43, 44, 45, 46, 47, 48, 49, 50] (by decide +kernel) (by decide +kernel)
set_option maxRecDepth 20000 in
theorem gX3_canHeal_X3_joint : GoodIn wsX3_canHeal (wsV RX3 126 RX3 yX3_joint wsX3_joint) := goodIn_app (goodIn_of _ (by decide +kernel)) ggX3_canHeal_X3_joint
set_option maxRecDepth 20000 in
theorem ggX3_canHeal_X3_hasBadHead : GoodIn wsX3_canHeal wsX3_hasBadHead := goodIn_r _ [25, 26, 27, 28, 5, 29, 30, 31, 32, 33, 34, 35, 12, 13, 36, 37, 38, 39, 40, 41, 42, 43, 44, 45, 46, 47, 48, 49, 50] (by decide +kernel) (by decide +kernel)
set_option maxRecDepth 20000 in
theorem gX3_canHeal_X3_hasBadHead : GoodIn wsX3_canHeal (wsV RX3 117 RX3 yX3_hasBadHead wsX3_hasBadHead) := goodIn_app (goodIn_of _ (by decide +kernel)) ggX3_canHeal_X3_hasBadHead
theorem dX3_canHeal_0 : decode cX3_canHeal 0 = .ok (.aload_n 0, 1) := by decide +kernel
theorem dX3_canHeal_1 : decode cX3_canHeal 1 = .ok (.getfield 33, 3) := by decide +kernel
theorem dX3_canHeal_4 : decode cX3_canHeal 4 = .ok (.iload_n 1, 1) := by decide +kernel
theorem dX3_canHeal_5 : decode cX3_canHeal 5 = .ok (.iaload, 1) := by decide +kernel
theorem dX3_canHeal_6 : decode cX3_canHeal 6 = .ok (.iconst 1, 1) := by decide +kernel
theorem dX3_canHeal_7 : decode cX3_canHeal 7 = .ok (.if_icmp .ne 31, 3) := by decide +kernel
theorem dX3_canHeal_10 : decode cX3_canHeal 10 = .ok (.aload_n 0, 1) := by decide +kernel
theorem dX3_canHeal_11 : decode cX3_canHeal 11 = .ok (.iload_n 1, 1) := by decide +kernel
theorem dX3_canHeal_12 : decode cX3_canHeal 12 = .ok (.invokevirtual 126, 3) := by decide +kernel
theorem dX3_canHeal_15 : decode cX3_canHeal 15 = .ok (.ifCond .ne 23, 3) := by decide +kernel
theorem dX3_canHeal_18 : decode cX3_canHeal 18 = .ok (.aload_n 0, 1) := by decide +kernel
theorem dX3_canHeal_19 : decode cX3_canHeal 19 = .ok (.iload_n 2, 1) := by decide +kernel
theorem dX3_canHeal_20 : decode cX3_canHeal 20 = .ok (.invokevirtual 117, 3) := by decide +kernel
theorem dX3_canHeal_23 : decode cX3_canHeal 23 = .ok (.ifCond .ne 15, 3) := by decide +kernel
theorem dX3_canHeal_26 : decode cX3_canHeal 26 = .ok (.aload_n 0, 1) := by decide +kernel
theorem dX3_canHeal_27 : decode cX3_canHeal 27 = .ok (.iload_n 3, 1) := by decide +kernel
theorem dX3_canHeal_28 : decode cX3_canHeal 28 = .ok (.invokevirtual 117, 3) := by decide +kernel
theorem dX3_canHeal_31 : decode cX3_canHeal 31 = .ok (.ifCond .ne 7, 3) := by decide +kernel
theorem dX3_canHeal_34 : decode cX3_canHeal 34 = .ok (.iconst 1, 1) := by decide +kernel
theorem dX3_canHeal_35 : decode cX3_canHeal 35 = .ok (.goto 4, 3) := by decide +kernel
theorem dX3_canHeal_38 : decode cX3_canHeal 38 = .ok (.iconst 0, 1) := by decide +kernel
theorem dX3_canHeal_39 : decode cX3_canHeal 39 = .ok (.ireturn, 1) := by decide +kernel
theorem dX3_heal_0 : decode cX3_heal 0 = .ok (.aload_n 0, 1) := by decide +kernel
theorem dX3_heal_1 : decode cX3_heal 1 = .ok (.getfield 36, 3) := by decide +kernel
theorem dX3_heal_4 : decode cX3_heal 4 = .ok (.iload_n 2, 1) := by decide +kernel
theorem dX3_heal_5 : decode cX3_heal 5 = .ok (.iconst 0, 1) := by decide +kernel
theorem dX3_heal_6 : decode cX3_heal 6 = .ok (.iastore, 1) := by decide +kernel
theorem dX3_heal_7 : decode cX3_heal 7 = .ok (.aload_n 0, 1) := by decide +kernel
theorem dX3_heal_8 : decode cX3_heal 8 = .ok (.getfield 36, 3) := by decide +kernel
theorem dX3_heal_11 : decode cX3_heal 11 = .ok (.iload_n 3, 1) := by decide +kernel
theorem dX3_heal_12 : decode cX3_heal 12 = .ok (.iconst 0, 1) := by decide +kernel
theorem dX3_heal_13 : decode cX3_heal 13 = .ok (.iastore, 1) := by decide +kernel
theorem dX3_heal_14 : decode cX3_heal 14 = .ok (.aload_n 0, 1) := by decide +kernel
theorem dX3_heal_15 : decode cX3_heal 15 = .ok (.getfield 39, 3) := by decide +kernel
theorem dX3_heal_18 : decode cX3_heal 18 = .ok (.iload_n 2, 1) := by decide +kernel
theorem dX3_heal_19 : decode cX3_heal 19 = .ok (.iconst 0, 1) := by decide +kernel
theorem dX3_heal_20 : decode cX3_heal 20 = .ok (.iastore, 1) := by decide +kernel
theorem dX3_heal_21 : decode cX3_heal 21 = .ok (.aload_n 0, 1) := by decide +kernel
theorem dX3_heal_22 : decode cX3_heal 22 = .ok (.getfield 39, 3) := by decide +kernel
theorem dX3_heal_25 : decode cX3_heal 25 = .ok (.iload_n 3, 1) := by decide +kernel
theorem dX3_heal_26 : decode cX3_heal 26 = .ok (.iconst 0, 1) := by decide +kernel
theorem dX3_heal_27 : decode cX3_heal 27 = .ok (.iastore, 1) := by decide +kernel
theorem dX3_heal_28 : decode cX3_heal 28 = .ok (.aload_n 0, 1) := by decide +kernel
theorem dX3_heal_29 : decode cX3_heal 29 = .ok (.getfield 33, 3) := by decide +kernel
theorem dX3_heal_32 : decode cX3_heal 32 = .ok (.iload_n 1, 1) := by decide +kernel
theorem dX3_heal_33 : decode cX3_heal 33 = .ok (.iconst 0, 1) := by decide +kernel
theorem dX3_heal_34 : decode cX3_heal 34 = .ok (.iastore, 1) := by decide +kernel
theorem dX3_heal_35 : decode cX3_heal 35 = .ok (.return_, 1) := by decide +kernel
set_option maxRecDepth 20000 in
theorem ggX3_joint_X3_leftOf : GoodIn wsX3_joint wsX3_leftOf := goodIn_r _ [6, 7, 8, 17, 18, 19, 20, 21, 22, 23, 24, 25, 26, 27, 28, 29, 30, 31] (by decide +kernel) (by decide +kernel)
set_option maxRecDepth 20000 in
theorem gX3_joint_X3_leftOf : GoodIn wsX3_joint (wsV RX3 69 RX3 yX3_leftOf wsX3_leftOf) := goodIn_app (goodIn_of _ (by decide +kernel)) ggX3_joint_X3_leftOf
set_option maxRecDepth 20000 in
theorem ggX3_joint_X3_rightOf : GoodIn wsX3_joint wsX3_rightOf := goodIn_r _ [12, 8, 17, 18, 19, 20, 21, 22, 23, 24, 25, 26, 27, 28, 29, 30, 31] (by decide +kernel) (by decide +kernel)
set_option maxRecDepth 20000 in
theorem gX3_joint_X3_rightOf : GoodIn wsX3_joint (wsV RX3 73 RX3 yX3_rightOf wsX3_rightOf) := goodIn_app (goodIn_of _ (by decide +kernel)) ggX3_joint_X3_rightOf
set_option maxRecDepth 20000 in
theorem ggX3_joint_X3_hasSection : GoodIn wsX3_joint wsX3_hasSection := goodIn_r _ [16, 8, 17, 18, 19, 20, 21, 22, 23, 24, 25, 26, 27, 28, 29, 30, 31] (by decide +kernel) (by decide +kernel)
set_option maxRecDepth 20000 in
theorem gX3_joint_X3_hasSection : GoodIn wsX3_joint (wsV RX3 76 RX3 yX3_hasSection wsX3_hasSection) := goodIn_app (goodIn_of _ (by decide +kernel)) ggX3_joint_X3_hasSection
theorem dX3_joint_0 : decode cX3_joint 0 = .ok (.aload_n 0, 1) := by decide +kernel
theorem dX3_joint_1 : decode cX3_joint 1 = .ok (.iload_n 1, 1) := by decide +kernel
theorem dX3_joint_2 : decode cX3_joint 2 = .ok (.invokevirtual 69, 3) := by decide +kernel
theorem dX3_joint_5 : decode cX3_joint 5 = .ok (.istore_n 2, 1) := by decide +kernel
theorem dX3_joint_6 : decode cX3_joint 6 = .ok (.aload_n 0, 1) := by decide +kernel
theorem dX3_joint_7 : decode cX3_joint 7 = .ok (.iload_n 1, 1) := by decide +kernel
theorem dX3_joint_8 : decode cX3_joint 8 = .ok (.invokevirtual 73, 3) := by decide +kernel
theorem dX3_joint_11 : decode cX3_joint 11 = .ok (.istore_n 3, 1) := by decide +kernel
theorem dX3_joint_12 : decode cX3_joint 12 = .ok (.aload_n 0, 1) := by decide +kernel
theorem dX3_joint_13 : decode cX3_joint 13 = .ok (.iload_n 2, 1) := by decide +kernel
theorem dX3_joint_14 : decode cX3_joint 14 = .ok (.invokevirtual 76, 3) := by decide +kernel
theorem dX3_joint_17 : decode cX3_joint 17 = .ok (.ifCond .eq 27, 3) := by decide +kernel
theorem dX3_joint_20 : decode cX3_joint 20 = .ok (.aload_n 0, 1) := by decide +kernel
theorem dX3_joint_21 : decode cX3_joint 21 = .ok (.iload_n 3, 1) := by decide +kernel
theorem dX3_joint_22 : decode cX3_joint 22 = .ok (.invokevirtual 76, 3) := by decide +kernel
theorem dX3_joint_25 : decode cX3_joint 25 = .ok (.ifCond .eq 19, 3) := by decide +kernel
theorem dX3_joint_28 : decode cX3_joint 28 = .ok (.aload_n 0, 1) := by decide +kernel
theorem dX3_joint_29 : decode cX3_joint 29 = .ok (.getfield 36, 3) := by decide +kernel
theorem dX3_joint_32 : decode cX3_joint 32 = .ok (.iload_n 2, 1) := by decide +kernel
theorem dX3_joint_33 : decode cX3_joint 33 = .ok (.iaload, 1) := by decide +kernel
theorem dX3_joint_34 : decode cX3_joint 34 = .ok (.aload_n 0, 1) := by decide +kernel
theorem dX3_joint_35 : decode cX3_joint 35 = .ok (.getfield 36, 3) := by decide +kernel
theorem dX3_joint_38 : decode cX3_joint 38 = .ok (.iload_n 3, 1) := by decide +kernel
theorem dX3_joint_39 : decode cX3_joint 39 = .ok (.iaload, 1) := by decide +kernel
theorem dX3_joint_40 : decode cX3_joint 40 = .ok (.iadd, 1) := by decide +kernel
theorem dX3_joint_41 : decode cX3_joint 41 = .ok (.goto 4, 3) := by decide +kernel
theorem dX3_joint_44 : decode cX3_joint 44 = .ok (.iconst 0, 1) := by decide +kernel
theorem dX3_joint_45 : decode cX3_joint 45 = .ok (.ireturn, 1) := by decide +kernel
theorem dX3_awaitSweep_0 : decode cX3_awaitSweep 0 = .ok (.aload_n 0, 1) := by decide +kernel
theorem dX3_awaitSweep_1 : decode cX3_awaitSweep 1 = .ok (.getfield 36, 3) := by decide +kernel
theorem dX3_awaitSweep_4 : decode cX3_awaitSweep 4 = .ok (.iload_n 1, 1) := by decide +kernel
theorem dX3_awaitSweep_5 : decode cX3_awaitSweep 5 = .ok (.iconst 0, 1) := by decide +kernel
theorem dX3_awaitSweep_6 : decode cX3_awaitSweep 6 = .ok (.iastore, 1) := by decide +kernel
theorem dX3_awaitSweep_7 : decode cX3_awaitSweep 7 = .ok (.aload_n 0, 1) := by decide +kernel
theorem dX3_awaitSweep_8 : decode cX3_awaitSweep 8 = .ok (.getfield 39, 3) := by decide +kernel
theorem dX3_awaitSweep_11 : decode cX3_awaitSweep 11 = .ok (.iload_n 1, 1) := by decide +kernel
theorem dX3_awaitSweep_12 : decode cX3_awaitSweep 12 = .ok (.iconst 3, 1) := by decide +kernel
theorem dX3_awaitSweep_13 : decode cX3_awaitSweep 13 = .ok (.iastore, 1) := by decide +kernel
theorem dX3_awaitSweep_14 : decode cX3_awaitSweep 14 = .ok (.aload_n 0, 1) := by decide +kernel
theorem dX3_awaitSweep_15 : decode cX3_awaitSweep 15 = .ok (.getfield 42, 3) := by decide +kernel
theorem dX3_awaitSweep_18 : decode cX3_awaitSweep 18 = .ok (.iload_n 1, 1) := by decide +kernel
theorem dX3_awaitSweep_19 : decode cX3_awaitSweep 19 = .ok (.iconst 0, 1) := by decide +kernel
theorem dX3_awaitSweep_20 : decode cX3_awaitSweep 20 = .ok (.iastore, 1) := by decide +kernel
theorem dX3_awaitSweep_21 : decode cX3_awaitSweep 21 = .ok (.return_, 1) := by decide +kernel
theorem dX3_called_0 : decode cX3_called 0 = .ok (.iconst 0, 1) := by decide +kernel
theorem dX3_called_1 : decode cX3_called 1 = .ok (.istore_n 2, 1) := by decide +kernel
theorem dX3_called_2 : decode cX3_called 2 = .ok (.iconst 0, 1) := by decide +kernel
theorem dX3_called_3 : decode cX3_called 3 = .ok (.istore_n 3, 1) := by decide +kernel
theorem dX3_called_4 : decode cX3_called 4 = .ok (.iload_n 3, 1) := by decide +kernel
theorem dX3_called_5 : decode cX3_called 5 = .ok (.aload_n 0, 1) := by decide +kernel
theorem dX3_called_6 : decode cX3_called 6 = .ok (.getfield 48, 3) := by decide +kernel
theorem dX3_called_9 : decode cX3_called 9 = .ok (.if_icmp .ge 25, 3) := by decide +kernel
theorem dX3_called_12 : decode cX3_called 12 = .ok (.aload_n 0, 1) := by decide +kernel
theorem dX3_called_13 : decode cX3_called 13 = .ok (.getfield 39, 3) := by decide +kernel
theorem dX3_called_16 : decode cX3_called 16 = .ok (.iload_n 3, 1) := by decide +kernel
theorem dX3_called_17 : decode cX3_called 17 = .ok (.iaload, 1) := by decide +kernel
theorem dX3_called_18 : decode cX3_called 18 = .ok (.iload_n 1, 1) := by decide +kernel
theorem dX3_called_19 : decode cX3_called 19 = .ok (.if_icmp .ne 9, 3) := by decide +kernel
theorem dX3_called_22 : decode cX3_called 22 = .ok (.iload_n 2, 1) := by decide +kernel
theorem dX3_called_23 : decode cX3_called 23 = .ok (.iconst 1, 1) := by decide +kernel
theorem dX3_called_24 : decode cX3_called 24 = .ok (.iload_n 3, 1) := by decide +kernel
theorem dX3_called_25 : decode cX3_called 25 = .ok (.ishl, 1) := by decide +kernel
theorem dX3_called_26 : decode cX3_called 26 = .ok (.ior, 1) := by decide +kernel
theorem dX3_called_27 : decode cX3_called 27 = .ok (.istore_n 2, 1) := by decide +kernel
theorem dX3_called_28 : decode cX3_called 28 = .ok (.iinc 3 1, 3) := by decide +kernel
theorem dX3_called_31 : decode cX3_called 31 = .ok (.goto (-27), 3) := by decide +kernel
theorem dX3_called_34 : decode cX3_called 34 = .ok (.iload_n 2, 1) := by decide +kernel
theorem dX3_called_35 : decode cX3_called 35 = .ok (.ireturn, 1) := by decide +kernel
set_option maxRecDepth 20000 in
theorem ggX3_wronglyClear_X3_called : GoodIn wsX3_wronglyClear wsX3_called := goodIn_r _ [5, 6, 7, 13, 14, 15, 16, 17, 18, 19, 20, 21, 22, 23, 24, 25, 26, 27] (by decide +kernel) (by decide +kernel)
set_option maxRecDepth 20000 in
theorem gX3_wronglyClear_X3_called : GoodIn wsX3_wronglyClear (wsV RX3 136 RX3 yX3_called wsX3_called) := goodIn_app (goodIn_of _ (by decide +kernel)) ggX3_wronglyClear_X3_called
set_option maxRecDepth 20000 in
theorem ggX3_wronglyClear_X3_empty : GoodIn wsX3_wronglyClear wsX3_empty := goodIn_r _ [11, 6, 12, 13, 14, 15, 16, 17, 18, 19, 20, 21, 22, 23, 24, 25, 26, 27] (by decide +kernel) (by decide +kernel)
set_option maxRecDepth 20000 in
theorem gX3_wronglyClear_X3_empty : GoodIn wsX3_wronglyClear (wsV RX3 139 RX3 yX3_empty wsX3_empty) := goodIn_app (goodIn_of _ (by decide +kernel)) ggX3_wronglyClear_X3_empty
theorem dX3_wronglyClear_0 : decode cX3_wronglyClear 0 = .ok (.aload_n 0, 1) := by decide +kernel
theorem dX3_wronglyClear_1 : decode cX3_wronglyClear 1 = .ok (.iconst 0, 1) := by decide +kernel
theorem dX3_wronglyClear_2 : decode cX3_wronglyClear 2 = .ok (.invokevirtual 136, 3) := by decide +kernel
theorem dX3_wronglyClear_5 : decode cX3_wronglyClear 5 = .ok (.aload_n 0, 1) := by decide +kernel
theorem dX3_wronglyClear_6 : decode cX3_wronglyClear 6 = .ok (.invokevirtual 139, 3) := by decide +kernel
theorem dX3_wronglyClear_9 : decode cX3_wronglyClear 9 = .ok (.iconst (-1), 1) := by decide +kernel
theorem dX3_wronglyClear_10 : decode cX3_wronglyClear 10 = .ok (.ixor, 1) := by decide +kernel
theorem dX3_wronglyClear_11 : decode cX3_wronglyClear 11 = .ok (.iand, 1) := by decide +kernel
theorem dX3_wronglyClear_12 : decode cX3_wronglyClear 12 = .ok (.ireturn, 1) := by decide +kernel
set_option maxRecDepth 20000 in
theorem ggX3_idle_X3_empty : GoodIn wsX3_idle wsX3_empty := goodIn_r _ [5, 6, 7, 13, 14, 15, 16, 17, 18, 19, 20, 21, 22, 23, 24, 25, 26, 27] (by decide +kernel) (by decide +kernel)
set_option maxRecDepth 20000 in
theorem gX3_idle_X3_empty : GoodIn wsX3_idle (wsV RX3 139 RX3 yX3_empty wsX3_empty) := goodIn_app (goodIn_of _ (by decide +kernel)) ggX3_idle_X3_empty
set_option maxRecDepth 20000 in
theorem ggX3_idle_X3_called : GoodIn wsX3_idle wsX3_called := goodIn_r _ [11, 6, 12, 13, 14, 15, 16, 17, 18, 19, 20, 21, 22, 23, 24, 25, 26, 27] (by decide +kernel) (by decide +kernel)
set_option maxRecDepth 20000 in
theorem gX3_idle_X3_called : GoodIn wsX3_idle (wsV RX3 136 RX3 yX3_called wsX3_called) := goodIn_app (goodIn_of _ (by decide +kernel)) ggX3_idle_X3_called
theorem dX3_idle_0 : decode cX3_idle 0 = .ok (.aload_n 0, 1) := by decide +kernel
theorem dX3_idle_1 : decode cX3_idle 1 = .ok (.invokevirtual 139, 3) := by decide +kernel
theorem dX3_idle_4 : decode cX3_idle 4 = .ok (.aload_n 0, 1) := by decide +kernel
theorem dX3_idle_5 : decode cX3_idle 5 = .ok (.iconst 0, 1) := by decide +kernel
theorem dX3_idle_6 : decode cX3_idle 6 = .ok (.invokevirtual 136, 3) := by decide +kernel
theorem dX3_idle_9 : decode cX3_idle 9 = .ok (.iconst (-1), 1) := by decide +kernel
theorem dX3_idle_10 : decode cX3_idle 10 = .ok (.ixor, 1) := by decide +kernel
theorem dX3_idle_11 : decode cX3_idle 11 = .ok (.iand, 1) := by decide +kernel
theorem dX3_idle_12 : decode cX3_idle 12 = .ok (.ireturn, 1) := by decide +kernel
theorem dX3_empty_0 : decode cX3_empty 0 = .ok (.iconst 0, 1) := by decide +kernel
theorem dX3_empty_1 : decode cX3_empty 1 = .ok (.istore_n 1, 1) := by decide +kernel
theorem dX3_empty_2 : decode cX3_empty 2 = .ok (.iconst 0, 1) := by decide +kernel
theorem dX3_empty_3 : decode cX3_empty 3 = .ok (.istore_n 2, 1) := by decide +kernel
theorem dX3_empty_4 : decode cX3_empty 4 = .ok (.iload_n 2, 1) := by decide +kernel
theorem dX3_empty_5 : decode cX3_empty 5 = .ok (.aload_n 0, 1) := by decide +kernel
theorem dX3_empty_6 : decode cX3_empty 6 = .ok (.getfield 48, 3) := by decide +kernel
theorem dX3_empty_9 : decode cX3_empty 9 = .ok (.if_icmp .ge 24, 3) := by decide +kernel
theorem dX3_empty_12 : decode cX3_empty 12 = .ok (.aload_n 0, 1) := by decide +kernel
theorem dX3_empty_13 : decode cX3_empty 13 = .ok (.getfield 45, 3) := by decide +kernel
theorem dX3_empty_16 : decode cX3_empty 16 = .ok (.iload_n 2, 1) := by decide +kernel
theorem dX3_empty_17 : decode cX3_empty 17 = .ok (.iaload, 1) := by decide +kernel
theorem dX3_empty_18 : decode cX3_empty 18 = .ok (.ifCond .ne 9, 3) := by decide +kernel
theorem dX3_empty_21 : decode cX3_empty 21 = .ok (.iload_n 1, 1) := by decide +kernel
theorem dX3_empty_22 : decode cX3_empty 22 = .ok (.iconst 1, 1) := by decide +kernel
theorem dX3_empty_23 : decode cX3_empty 23 = .ok (.iload_n 2, 1) := by decide +kernel
theorem dX3_empty_24 : decode cX3_empty 24 = .ok (.ishl, 1) := by decide +kernel
theorem dX3_empty_25 : decode cX3_empty 25 = .ok (.ior, 1) := by decide +kernel
theorem dX3_empty_26 : decode cX3_empty 26 = .ok (.istore_n 1, 1) := by decide +kernel
theorem dX3_empty_27 : decode cX3_empty 27 = .ok (.iinc 2 1, 3) := by decide +kernel
theorem dX3_empty_30 : decode cX3_empty 30 = .ok (.goto (-26), 3) := by decide +kernel
theorem dX3_empty_33 : decode cX3_empty 33 = .ok (.iload_n 1, 1) := by decide +kernel
theorem dX3_empty_34 : decode cX3_empty 34 = .ok (.ireturn, 1) := by decide +kernel
set_option maxRecDepth 20000 in
theorem ggX3_faultyHeads_X3_heads : GoodIn wsX3_faultyHeads wsX3_heads := goodIn_r _ [6, 7, 8, 9, 10, 11, 12, 13, 14, 15, 16, 17, 18, 19, 20, 21, 22, 23] (by decide +kernel) (by decide +kernel)
set_option maxRecDepth 20000 in
theorem gX3_faultyHeads_X3_heads : GoodIn wsX3_faultyHeads (wsV RX3 65 RX3 yX3_heads wsX3_heads) := goodIn_app (goodIn_of _ (by decide +kernel)) ggX3_faultyHeads_X3_heads
theorem dX3_faultyHeads_0 : decode cX3_faultyHeads 0 = .ok (.iconst 0, 1) := by decide +kernel
theorem dX3_faultyHeads_1 : decode cX3_faultyHeads 1 = .ok (.istore_n 1, 1) := by decide +kernel
theorem dX3_faultyHeads_2 : decode cX3_faultyHeads 2 = .ok (.iconst 0, 1) := by decide +kernel
theorem dX3_faultyHeads_3 : decode cX3_faultyHeads 3 = .ok (.istore_n 2, 1) := by decide +kernel
theorem dX3_faultyHeads_4 : decode cX3_faultyHeads 4 = .ok (.iload_n 2, 1) := by decide +kernel
theorem dX3_faultyHeads_5 : decode cX3_faultyHeads 5 = .ok (.aload_n 0, 1) := by decide +kernel
theorem dX3_faultyHeads_6 : decode cX3_faultyHeads 6 = .ok (.invokevirtual 65, 3) := by decide +kernel
theorem dX3_faultyHeads_9 : decode cX3_faultyHeads 9 = .ok (.if_icmp .ge 20, 3) := by decide +kernel
theorem dX3_faultyHeads_12 : decode cX3_faultyHeads 12 = .ok (.iload_n 1, 1) := by decide +kernel
theorem dX3_faultyHeads_13 : decode cX3_faultyHeads 13 = .ok (.aload_n 0, 1) := by decide +kernel
theorem dX3_faultyHeads_14 : decode cX3_faultyHeads 14 = .ok (.getfield 21, 3) := by decide +kernel
theorem dX3_faultyHeads_17 : decode cX3_faultyHeads 17 = .ok (.iload_n 2, 1) := by decide +kernel
theorem dX3_faultyHeads_18 : decode cX3_faultyHeads 18 = .ok (.iaload, 1) := by decide +kernel
theorem dX3_faultyHeads_19 : decode cX3_faultyHeads 19 = .ok (.iload_n 2, 1) := by decide +kernel
theorem dX3_faultyHeads_20 : decode cX3_faultyHeads 20 = .ok (.ishl, 1) := by decide +kernel
theorem dX3_faultyHeads_21 : decode cX3_faultyHeads 21 = .ok (.ior, 1) := by decide +kernel
theorem dX3_faultyHeads_22 : decode cX3_faultyHeads 22 = .ok (.istore_n 1, 1) := by decide +kernel
theorem dX3_faultyHeads_23 : decode cX3_faultyHeads 23 = .ok (.iinc 2 1, 3) := by decide +kernel
theorem dX3_faultyHeads_26 : decode cX3_faultyHeads 26 = .ok (.goto (-22), 3) := by decide +kernel
theorem dX3_faultyHeads_29 : decode cX3_faultyHeads 29 = .ok (.iload_n 1, 1) := by decide +kernel
theorem dX3_faultyHeads_30 : decode cX3_faultyHeads 30 = .ok (.ireturn, 1) := by decide +kernel
theorem dX3_axlesInAll_0 : decode cX3_axlesInAll 0 = .ok (.iconst 0, 1) := by decide +kernel
theorem dX3_axlesInAll_1 : decode cX3_axlesInAll 1 = .ok (.istore_n 1, 1) := by decide +kernel
theorem dX3_axlesInAll_2 : decode cX3_axlesInAll 2 = .ok (.iconst 0, 1) := by decide +kernel
theorem dX3_axlesInAll_3 : decode cX3_axlesInAll 3 = .ok (.istore_n 2, 1) := by decide +kernel
theorem dX3_axlesInAll_4 : decode cX3_axlesInAll 4 = .ok (.iload_n 2, 1) := by decide +kernel
theorem dX3_axlesInAll_5 : decode cX3_axlesInAll 5 = .ok (.aload_n 0, 1) := by decide +kernel
theorem dX3_axlesInAll_6 : decode cX3_axlesInAll 6 = .ok (.getfield 48, 3) := by decide +kernel
theorem dX3_axlesInAll_9 : decode cX3_axlesInAll 9 = .ok (.if_icmp .ge 18, 3) := by decide +kernel
theorem dX3_axlesInAll_12 : decode cX3_axlesInAll 12 = .ok (.iload_n 1, 1) := by decide +kernel
theorem dX3_axlesInAll_13 : decode cX3_axlesInAll 13 = .ok (.aload_n 0, 1) := by decide +kernel
theorem dX3_axlesInAll_14 : decode cX3_axlesInAll 14 = .ok (.getfield 45, 3) := by decide +kernel
theorem dX3_axlesInAll_17 : decode cX3_axlesInAll 17 = .ok (.iload_n 2, 1) := by decide +kernel
theorem dX3_axlesInAll_18 : decode cX3_axlesInAll 18 = .ok (.iaload, 1) := by decide +kernel
theorem dX3_axlesInAll_19 : decode cX3_axlesInAll 19 = .ok (.iadd, 1) := by decide +kernel
theorem dX3_axlesInAll_20 : decode cX3_axlesInAll 20 = .ok (.istore_n 1, 1) := by decide +kernel
theorem dX3_axlesInAll_21 : decode cX3_axlesInAll 21 = .ok (.iinc 2 1, 3) := by decide +kernel
theorem dX3_axlesInAll_24 : decode cX3_axlesInAll 24 = .ok (.goto (-20), 3) := by decide +kernel
theorem dX3_axlesInAll_27 : decode cX3_axlesInAll 27 = .ok (.iload_n 1, 1) := by decide +kernel
theorem dX3_axlesInAll_28 : decode cX3_axlesInAll 28 = .ok (.ireturn, 1) := by decide +kernel
theorem dX3_sumOfAll_0 : decode cX3_sumOfAll 0 = .ok (.iconst 0, 1) := by decide +kernel
theorem dX3_sumOfAll_1 : decode cX3_sumOfAll 1 = .ok (.istore_n 1, 1) := by decide +kernel
theorem dX3_sumOfAll_2 : decode cX3_sumOfAll 2 = .ok (.iconst 0, 1) := by decide +kernel
theorem dX3_sumOfAll_3 : decode cX3_sumOfAll 3 = .ok (.istore_n 2, 1) := by decide +kernel
theorem dX3_sumOfAll_4 : decode cX3_sumOfAll 4 = .ok (.iload_n 2, 1) := by decide +kernel
theorem dX3_sumOfAll_5 : decode cX3_sumOfAll 5 = .ok (.aload_n 0, 1) := by decide +kernel
theorem dX3_sumOfAll_6 : decode cX3_sumOfAll 6 = .ok (.getfield 48, 3) := by decide +kernel
theorem dX3_sumOfAll_9 : decode cX3_sumOfAll 9 = .ok (.if_icmp .ge 18, 3) := by decide +kernel
theorem dX3_sumOfAll_12 : decode cX3_sumOfAll 12 = .ok (.iload_n 1, 1) := by decide +kernel
theorem dX3_sumOfAll_13 : decode cX3_sumOfAll 13 = .ok (.aload_n 0, 1) := by decide +kernel
theorem dX3_sumOfAll_14 : decode cX3_sumOfAll 14 = .ok (.getfield 36, 3) := by decide +kernel
theorem dX3_sumOfAll_17 : decode cX3_sumOfAll 17 = .ok (.iload_n 2, 1) := by decide +kernel
theorem dX3_sumOfAll_18 : decode cX3_sumOfAll 18 = .ok (.iaload, 1) := by decide +kernel
theorem dX3_sumOfAll_19 : decode cX3_sumOfAll 19 = .ok (.iadd, 1) := by decide +kernel
theorem dX3_sumOfAll_20 : decode cX3_sumOfAll 20 = .ok (.istore_n 1, 1) := by decide +kernel
theorem dX3_sumOfAll_21 : decode cX3_sumOfAll 21 = .ok (.iinc 2 1, 3) := by decide +kernel
theorem dX3_sumOfAll_24 : decode cX3_sumOfAll 24 = .ok (.goto (-20), 3) := by decide +kernel
theorem dX3_sumOfAll_27 : decode cX3_sumOfAll 27 = .ok (.iload_n 1, 1) := by decide +kernel
theorem dX3_sumOfAll_28 : decode cX3_sumOfAll 28 = .ok (.ireturn, 1) := by decide +kernel
set_option maxRecDepth 20000 in
theorem ggX3_suspects_X3_heads : GoodIn wsX3_suspects wsX3_heads := goodIn_r _ [5, 6, 7, 25, 26, 27, 28, 29, 30, 31, 32, 33, 34, 35, 36, 37, 38, 39] (by decide +kernel) (by decide +kernel)
set_option maxRecDepth 20000 in
theorem gX3_suspects_X3_heads : GoodIn wsX3_suspects (wsV RX3 65 RX3 yX3_heads wsX3_heads) := goodIn_app (goodIn_of _ (by decide +kernel)) ggX3_suspects_X3_heads
set_option maxRecDepth 20000 in
theorem ggX3_suspects_X3_miscount : GoodIn wsX3_suspects wsX3_miscount := goodIn_r _ [11, 12, 13, 14, 4, 15, 7, 16, 17, 18, 19, 20, 21, 22, 23, 24, 6, 25, 26, 27, 28, 29, 30, 31, 32, 33, 34, 35, 36, 37, 38, 39] (by decide +kernel) (by decide +kernel)
set_option maxRecDepth 20000 in
theorem gX3_suspects_X3_miscount : GoodIn wsX3_suspects (wsV RX3 142 RX3 yX3_miscount wsX3_miscount) := goodIn_app (goodIn_of _ (by decide +kernel)) ggX3_suspects_X3_miscount
theorem dX3_suspects_0 : decode cX3_suspects 0 = .ok (.iconst 0, 1) := by decide +kernel
theorem dX3_suspects_1 : decode cX3_suspects 1 = .ok (.istore_n 1, 1) := by decide +kernel
theorem dX3_suspects_2 : decode cX3_suspects 2 = .ok (.iconst 0, 1) := by decide +kernel
theorem dX3_suspects_3 : decode cX3_suspects 3 = .ok (.istore_n 2, 1) := by decide +kernel
theorem dX3_suspects_4 : decode cX3_suspects 4 = .ok (.iload_n 2, 1) := by decide +kernel
theorem dX3_suspects_5 : decode cX3_suspects 5 = .ok (.aload_n 0, 1) := by decide +kernel
theorem dX3_suspects_6 : decode cX3_suspects 6 = .ok (.invokevirtual 65, 3) := by decide +kernel
theorem dX3_suspects_9 : decode cX3_suspects 9 = .ok (.if_icmp .ge 23, 3) := by decide +kernel
theorem dX3_suspects_12 : decode cX3_suspects 12 = .ok (.aload_n 0, 1) := by decide +kernel
theorem dX3_suspects_13 : decode cX3_suspects 13 = .ok (.iload_n 2, 1) := by decide +kernel
theorem dX3_suspects_14 : decode cX3_suspects 14 = .ok (.invokevirtual 142, 3) := by decide +kernel
theorem dX3_suspects_17 : decode cX3_suspects 17 = .ok (.ifCond .eq 9, 3) := by decide +kernel
theorem dX3_suspects_20 : decode cX3_suspects 20 = .ok (.iload_n 1, 1) := by decide +kernel
theorem dX3_suspects_21 : decode cX3_suspects 21 = .ok (.iconst 1, 1) := by decide +kernel
theorem dX3_suspects_22 : decode cX3_suspects 22 = .ok (.iload_n 2, 1) := by decide +kernel
theorem dX3_suspects_23 : decode cX3_suspects 23 = .ok (.ishl, 1) := by decide +kernel
theorem dX3_suspects_24 : decode cX3_suspects 24 = .ok (.ior, 1) := by decide +kernel
theorem dX3_suspects_25 : decode cX3_suspects 25 = .ok (.istore_n 1, 1) := by decide +kernel
theorem dX3_suspects_26 : decode cX3_suspects 26 = .ok (.iinc 2 1, 3) := by decide +kernel
theorem dX3_suspects_29 : decode cX3_suspects 29 = .ok (.goto (-25), 3) := by decide +kernel
theorem dX3_suspects_32 : decode cX3_suspects 32 = .ok (.iload_n 1, 1) := by decide +kernel
theorem dX3_suspects_33 : decode cX3_suspects 33 = .ok (.ireturn, 1) := by decide +kernel
set_option maxRecDepth 20000 in
theorem ggX3_miscount_X3_explains : GoodIn wsX3_miscount wsX3_explains := goodIn_r _ [5, 6, 7, 8, 9, 10, 4, 11, 12, 13, 14, 15, 16, 17, 18, 19, 20, 21, 22, 23, 24, 25, 26, 27, 28, 29, 30, 31] (by decide +kernel) (by decide +kernel)
set_option maxRecDepth 20000 in
theorem gX3_miscount_X3_explains : GoodIn wsX3_miscount (wsV RX3 145 RX3 yX3_explains wsX3_explains) := goodIn_app (goodIn_of _ (by decide +kernel)) ggX3_miscount_X3_explains
theorem dX3_miscount_0 : decode cX3_miscount 0 = .ok (.aload_n 0, 1) := by decide +kernel
theorem dX3_miscount_1 : decode cX3_miscount 1 = .ok (.iload_n 1, 1) := by decide +kernel
theorem dX3_miscount_2 : decode cX3_miscount 2 = .ok (.iconst 0, 1) := by decide +kernel
theorem dX3_miscount_3 : decode cX3_miscount 3 = .ok (.invokevirtual 145, 3) := by decide +kernel
theorem dX3_miscount_6 : decode cX3_miscount 6 = .ok (.ifCond .eq 5, 3) := by decide +kernel
theorem dX3_miscount_9 : decode cX3_miscount 9 = .ok (.iconst 0, 1) := by decide +kernel
theorem dX3_miscount_10 : decode cX3_miscount 10 = .ok (.ireturn, 1) := by decide +kernel
theorem dX3_miscount_11 : decode cX3_miscount 11 = .ok (.iconst 1, 1) := by decide +kernel
theorem dX3_miscount_12 : decode cX3_miscount 12 = .ok (.istore_n 2, 1) := by decide +kernel
theorem dX3_miscount_13 : decode cX3_miscount 13 = .ok (.iload_n 2, 1) := by decide +kernel
theorem dX3_miscount_14 : decode cX3_miscount 14 = .ok (.bipush 9, 2) := by decide +kernel
theorem dX3_miscount_16 : decode cX3_miscount 16 = .ok (.if_icmp .gt 33, 3) := by decide +kernel
theorem dX3_miscount_19 : decode cX3_miscount 19 = .ok (.aload_n 0, 1) := by decide +kernel
theorem dX3_miscount_20 : decode cX3_miscount 20 = .ok (.iload_n 1, 1) := by decide +kernel
theorem dX3_miscount_21 : decode cX3_miscount 21 = .ok (.iload_n 2, 1) := by decide +kernel
theorem dX3_miscount_22 : decode cX3_miscount 22 = .ok (.invokevirtual 145, 3) := by decide +kernel
theorem dX3_miscount_25 : decode cX3_miscount 25 = .ok (.ifCond .eq 5, 3) := by decide +kernel
theorem dX3_miscount_28 : decode cX3_miscount 28 = .ok (.iload_n 2, 1) := by decide +kernel
theorem dX3_miscount_29 : decode cX3_miscount 29 = .ok (.ireturn, 1) := by decide +kernel
theorem dX3_miscount_30 : decode cX3_miscount 30 = .ok (.aload_n 0, 1) := by decide +kernel
theorem dX3_miscount_31 : decode cX3_miscount 31 = .ok (.iload_n 1, 1) := by decide +kernel
theorem dX3_miscount_32 : decode cX3_miscount 32 = .ok (.iload_n 2, 1) := by decide +kernel
theorem dX3_miscount_33 : decode cX3_miscount 33 = .ok (.ineg, 1) := by decide +kernel
theorem dX3_miscount_34 : decode cX3_miscount 34 = .ok (.invokevirtual 145, 3) := by decide +kernel
theorem dX3_miscount_37 : decode cX3_miscount 37 = .ok (.ifCond .eq 6, 3) := by decide +kernel
theorem dX3_miscount_40 : decode cX3_miscount 40 = .ok (.iload_n 2, 1) := by decide +kernel
theorem dX3_miscount_41 : decode cX3_miscount 41 = .ok (.ineg, 1) := by decide +kernel
theorem dX3_miscount_42 : decode cX3_miscount 42 = .ok (.ireturn, 1) := by decide +kernel
theorem dX3_miscount_43 : decode cX3_miscount 43 = .ok (.iinc 2 1, 3) := by decide +kernel
theorem dX3_miscount_46 : decode cX3_miscount 46 = .ok (.goto (-33), 3) := by decide +kernel
theorem dX3_miscount_49 : decode cX3_miscount 49 = .ok (.iconst 0, 1) := by decide +kernel
theorem dX3_miscount_50 : decode cX3_miscount 50 = .ok (.ireturn, 1) := by decide +kernel
set_option maxRecDepth 20000 in
theorem ggX3_explains_X3_rightOf : GoodIn wsX3_explains wsX3_rightOf := goodIn_r _ [7, 1, 13, 14, 15, 16, 17, 18, 19, 20, 21, 22, 23, 24, 25, 26, 27] (by decide +kernel) (by decide +kernel)
set_option maxRecDepth 20000 in
theorem gX3_explains_X3_rightOf : GoodIn wsX3_explains (wsV RX3 73 RX3 yX3_rightOf wsX3_rightOf) := goodIn_app (goodIn_of _ (by decide +kernel)) ggX3_explains_X3_rightOf
set_option maxRecDepth 20000 in
theorem ggX3_explains_X3_leftOf : GoodIn wsX3_explains wsX3_leftOf := goodIn_r _ [11, 12, 1, 13, 14, 15, 16, 17, 18, 19, 20, 21, 22, 23, 24, 25, 26, 27] (by decide +kernel) (by decide +kernel)
set_option maxRecDepth 20000 in
theorem gX3_explains_X3_leftOf : GoodIn wsX3_explains (wsV RX3 69 RX3 yX3_leftOf wsX3_leftOf) := goodIn_app (goodIn_of _ (by decide +kernel)) ggX3_explains_X3_leftOf
theorem dX3_explains_0 : decode cX3_explains 0 = .ok (.iconst 0, 1) := by decide +kernel
theorem dX3_explains_1 : decode cX3_explains 1 = .ok (.istore_n 3, 1) := by decide +kernel
theorem dX3_explains_2 : decode cX3_explains 2 = .ok (.iload_n 3, 1) := by decide +kernel
theorem dX3_explains_3 : decode cX3_explains 3 = .ok (.aload_n 0, 1) := by decide +kernel
theorem dX3_explains_4 : decode cX3_explains 4 = .ok (.getfield 48, 3) := by decide +kernel
theorem dX3_explains_7 : decode cX3_explains 7 = .ok (.if_icmp .ge 54, 3) := by decide +kernel
theorem dX3_explains_10 : decode cX3_explains 10 = .ok (.aload_n 0, 1) := by decide +kernel
theorem dX3_explains_11 : decode cX3_explains 11 = .ok (.getfield 36, 3) := by decide +kernel
theorem dX3_explains_14 : decode cX3_explains 14 = .ok (.iload_n 3, 1) := by decide +kernel
theorem dX3_explains_15 : decode cX3_explains 15 = .ok (.iaload, 1) := by decide +kernel
theorem dX3_explains_16 : decode cX3_explains 16 = .ok (.istore 4, 2) := by decide +kernel
theorem dX3_explains_18 : decode cX3_explains 18 = .ok (.iload_n 3, 1) := by decide +kernel
theorem dX3_explains_19 : decode cX3_explains 19 = .ok (.aload_n 0, 1) := by decide +kernel
theorem dX3_explains_20 : decode cX3_explains 20 = .ok (.iload_n 1, 1) := by decide +kernel
theorem dX3_explains_21 : decode cX3_explains 21 = .ok (.invokevirtual 73, 3) := by decide +kernel
theorem dX3_explains_24 : decode cX3_explains 24 = .ok (.if_icmp .ne 9, 3) := by decide +kernel
theorem dX3_explains_27 : decode cX3_explains 27 = .ok (.iload 4, 2) := by decide +kernel
theorem dX3_explains_29 : decode cX3_explains 29 = .ok (.iload_n 2, 1) := by decide +kernel
theorem dX3_explains_30 : decode cX3_explains 30 = .ok (.iadd, 1) := by decide +kernel
theorem dX3_explains_31 : decode cX3_explains 31 = .ok (.istore 4, 2) := by decide +kernel
theorem dX3_explains_33 : decode cX3_explains 33 = .ok (.iload_n 3, 1) := by decide +kernel
theorem dX3_explains_34 : decode cX3_explains 34 = .ok (.aload_n 0, 1) := by decide +kernel
theorem dX3_explains_35 : decode cX3_explains 35 = .ok (.iload_n 1, 1) := by decide +kernel
theorem dX3_explains_36 : decode cX3_explains 36 = .ok (.invokevirtual 69, 3) := by decide +kernel
theorem dX3_explains_39 : decode cX3_explains 39 = .ok (.if_icmp .ne 9, 3) := by decide +kernel
theorem dX3_explains_42 : decode cX3_explains 42 = .ok (.iload 4, 2) := by decide +kernel
theorem dX3_explains_44 : decode cX3_explains 44 = .ok (.iload_n 2, 1) := by decide +kernel
theorem dX3_explains_45 : decode cX3_explains 45 = .ok (.isub, 1) := by decide +kernel
theorem dX3_explains_46 : decode cX3_explains 46 = .ok (.istore 4, 2) := by decide +kernel
theorem dX3_explains_48 : decode cX3_explains 48 = .ok (.iload 4, 2) := by decide +kernel
theorem dX3_explains_50 : decode cX3_explains 50 = .ok (.ifCond .ge 5, 3) := by decide +kernel
theorem dX3_explains_53 : decode cX3_explains 53 = .ok (.iconst 0, 1) := by decide +kernel
theorem dX3_explains_54 : decode cX3_explains 54 = .ok (.ireturn, 1) := by decide +kernel
theorem dX3_explains_55 : decode cX3_explains 55 = .ok (.iinc 3 1, 3) := by decide +kernel
theorem dX3_explains_58 : decode cX3_explains 58 = .ok (.goto (-56), 3) := by decide +kernel
theorem dX3_explains_61 : decode cX3_explains 61 = .ok (.iconst 1, 1) := by decide +kernel
theorem dX3_explains_62 : decode cX3_explains 62 = .ok (.ireturn, 1) := by decide +kernel
set_option maxRecDepth 20000 in
theorem ggX3_lossesLeft_X3_rightHead : GoodIn wsX3_lossesLeft wsX3_rightHead := goodIn_r _ [10, 11, 12, 13, 14, 15, 16, 17, 18, 19, 20, 21, 22, 23, 24, 25, 26, 27] (by decide +kernel) (by decide +kernel)
set_option maxRecDepth 20000 in
theorem gX3_lossesLeft_X3_rightHead : GoodIn wsX3_lossesLeft (wsV RX3 123 RX3 yX3_rightHead wsX3_rightHead) := goodIn_app (goodIn_of _ (by decide +kernel)) ggX3_lossesLeft_X3_rightHead
theorem dX3_lossesLeft_0 : decode cX3_lossesLeft 0 = .ok (.aload_n 0, 1) := by decide +kernel
theorem dX3_lossesLeft_1 : decode cX3_lossesLeft 1 = .ok (.getfield 30, 3) := by decide +kernel
theorem dX3_lossesLeft_4 : decode cX3_lossesLeft 4 = .ok (.iload_n 1, 1) := by decide +kernel
theorem dX3_lossesLeft_5 : decode cX3_lossesLeft 5 = .ok (.iaload, 1) := by decide +kernel
theorem dX3_lossesLeft_6 : decode cX3_lossesLeft 6 = .ok (.aload_n 0, 1) := by decide +kernel
theorem dX3_lossesLeft_7 : decode cX3_lossesLeft 7 = .ok (.getfield 30, 3) := by decide +kernel
theorem dX3_lossesLeft_10 : decode cX3_lossesLeft 10 = .ok (.aload_n 0, 1) := by decide +kernel
theorem dX3_lossesLeft_11 : decode cX3_lossesLeft 11 = .ok (.iload_n 1, 1) := by decide +kernel
theorem dX3_lossesLeft_12 : decode cX3_lossesLeft 12 = .ok (.invokevirtual 123, 3) := by decide +kernel
theorem dX3_lossesLeft_15 : decode cX3_lossesLeft 15 = .ok (.iaload, 1) := by decide +kernel
theorem dX3_lossesLeft_16 : decode cX3_lossesLeft 16 = .ok (.invokestatic 149, 3) := by decide +kernel
theorem dX3_lossesLeft_19 : decode cX3_lossesLeft 19 = .ok (.istore_n 2, 1) := by decide +kernel
theorem dX3_lossesLeft_20 : decode cX3_lossesLeft 20 = .ok (.iconst 0, 1) := by decide +kernel
theorem dX3_lossesLeft_21 : decode cX3_lossesLeft 21 = .ok (.iconst 4, 1) := by decide +kernel
theorem dX3_lossesLeft_22 : decode cX3_lossesLeft 22 = .ok (.iload_n 2, 1) := by decide +kernel
theorem dX3_lossesLeft_23 : decode cX3_lossesLeft 23 = .ok (.isub, 1) := by decide +kernel
theorem dX3_lossesLeft_24 : decode cX3_lossesLeft 24 = .ok (.invokestatic 149, 3) := by decide +kernel
theorem dX3_lossesLeft_27 : decode cX3_lossesLeft 27 = .ok (.ireturn, 1) := by decide +kernel
set_option maxRecDepth 20000 in
theorem ggX3_clearRun_X3_hasSection : GoodIn wsX3_clearRun wsX3_hasSection := goodIn_r _ [8, 1, 9, 10, 11, 12, 13, 14, 15, 16, 17, 18, 19, 20, 21, 22, 23] (by decide +kernel) (by decide +kernel)
set_option maxRecDepth 20000 in
theorem gX3_clearRun_X3_hasSection : GoodIn wsX3_clearRun (wsV RX3 76 RX3 yX3_hasSection wsX3_hasSection) := goodIn_app (goodIn_of _ (by decide +kernel)) ggX3_clearRun_X3_hasSection
theorem dX3_clearRun_0 : decode cX3_clearRun 0 = .ok (.iconst 0, 1) := by decide +kernel
theorem dX3_clearRun_1 : decode cX3_clearRun 1 = .ok (.istore_n 2, 1) := by decide +kernel
theorem dX3_clearRun_2 : decode cX3_clearRun 2 = .ok (.iload_n 1, 1) := by decide +kernel
theorem dX3_clearRun_3 : decode cX3_clearRun 3 = .ok (.istore_n 3, 1) := by decide +kernel
theorem dX3_clearRun_4 : decode cX3_clearRun 4 = .ok (.iload_n 2, 1) := by decide +kernel
theorem dX3_clearRun_5 : decode cX3_clearRun 5 = .ok (.aload_n 0, 1) := by decide +kernel
theorem dX3_clearRun_6 : decode cX3_clearRun 6 = .ok (.getfield 48, 3) := by decide +kernel
theorem dX3_clearRun_9 : decode cX3_clearRun 9 = .ok (.if_icmp .ge 51, 3) := by decide +kernel
theorem dX3_clearRun_12 : decode cX3_clearRun 12 = .ok (.aload_n 0, 1) := by decide +kernel
theorem dX3_clearRun_13 : decode cX3_clearRun 13 = .ok (.iload_n 3, 1) := by decide +kernel
theorem dX3_clearRun_14 : decode cX3_clearRun 14 = .ok (.invokevirtual 76, 3) := by decide +kernel
theorem dX3_clearRun_17 : decode cX3_clearRun 17 = .ok (.ifCond .eq 43, 3) := by decide +kernel
theorem dX3_clearRun_20 : decode cX3_clearRun 20 = .ok (.aload_n 0, 1) := by decide +kernel
theorem dX3_clearRun_21 : decode cX3_clearRun 21 = .ok (.getfield 39, 3) := by decide +kernel
theorem dX3_clearRun_24 : decode cX3_clearRun 24 = .ok (.iload_n 3, 1) := by decide +kernel
theorem dX3_clearRun_25 : decode cX3_clearRun 25 = .ok (.iaload, 1) := by decide +kernel
theorem dX3_clearRun_26 : decode cX3_clearRun 26 = .ok (.ifCond .ne 34, 3) := by decide +kernel
theorem dX3_clearRun_29 : decode cX3_clearRun 29 = .ok (.iinc 2 1, 3) := by decide +kernel
theorem dX3_clearRun_32 : decode cX3_clearRun 32 = .ok (.iload_n 3, 1) := by decide +kernel
theorem dX3_clearRun_33 : decode cX3_clearRun 33 = .ok (.iconst 1, 1) := by decide +kernel
theorem dX3_clearRun_34 : decode cX3_clearRun 34 = .ok (.iadd, 1) := by decide +kernel
theorem dX3_clearRun_35 : decode cX3_clearRun 35 = .ok (.aload_n 0, 1) := by decide +kernel
theorem dX3_clearRun_36 : decode cX3_clearRun 36 = .ok (.getfield 48, 3) := by decide +kernel
theorem dX3_clearRun_39 : decode cX3_clearRun 39 = .ok (.if_icmp .ne 14, 3) := by decide +kernel
theorem dX3_clearRun_42 : decode cX3_clearRun 42 = .ok (.aload_n 0, 1) := by decide +kernel
theorem dX3_clearRun_43 : decode cX3_clearRun 43 = .ok (.getfield 52, 3) := by decide +kernel
theorem dX3_clearRun_46 : decode cX3_clearRun 46 = .ok (.ifCond .eq 7, 3) := by decide +kernel
theorem dX3_clearRun_49 : decode cX3_clearRun 49 = .ok (.iconst 0, 1) := by decide +kernel
theorem dX3_clearRun_50 : decode cX3_clearRun 50 = .ok (.goto 6, 3) := by decide +kernel
theorem dX3_clearRun_53 : decode cX3_clearRun 53 = .ok (.iload_n 3, 1) := by decide +kernel
theorem dX3_clearRun_54 : decode cX3_clearRun 54 = .ok (.iconst 1, 1) := by decide +kernel
theorem dX3_clearRun_55 : decode cX3_clearRun 55 = .ok (.iadd, 1) := by decide +kernel
theorem dX3_clearRun_56 : decode cX3_clearRun 56 = .ok (.istore_n 3, 1) := by decide +kernel
theorem dX3_clearRun_57 : decode cX3_clearRun 57 = .ok (.goto (-53), 3) := by decide +kernel
theorem dX3_clearRun_60 : decode cX3_clearRun 60 = .ok (.iload_n 2, 1) := by decide +kernel
theorem dX3_clearRun_61 : decode cX3_clearRun 61 = .ok (.ireturn, 1) := by decide +kernel
set_option maxRecDepth 20000 in
theorem ggX3_save_X3_put : GoodIn wsX3_save wsX3_put := goodIn_r _ [19, 20, 21, 22, 23] (by decide +kernel) (by decide +kernel)
set_option maxRecDepth 20000 in
theorem gX3_save_X3_put : GoodIn wsX3_save (va_wsS RX3 154 yX3_put wsX3_put) := goodIn_app (goodIn_of _ (by decide +kernel)) ggX3_save_X3_put
theorem dX3_save_0 : decode cX3_save 0 = .ok (.aload_n 1, 1) := by decide +kernel
theorem dX3_save_1 : decode cX3_save 1 = .ok (.arraylength, 1) := by decide +kernel
theorem dX3_save_2 : decode cX3_save 2 = .ok (.bipush 83, 2) := by decide +kernel
theorem dX3_save_4 : decode cX3_save 4 = .ok (.if_icmp .eq 4, 3) := by decide +kernel
theorem dX3_save_7 : decode cX3_save 7 = .ok (.return_, 1) := by decide +kernel
theorem dX3_save_8 : decode cX3_save 8 = .ok (.aload_n 1, 1) := by decide +kernel
theorem dX3_save_9 : decode cX3_save 9 = .ok (.iconst 0, 1) := by decide +kernel
theorem dX3_save_10 : decode cX3_save 10 = .ok (.aload_n 0, 1) := by decide +kernel
theorem dX3_save_11 : decode cX3_save 11 = .ok (.getfield 48, 3) := by decide +kernel
theorem dX3_save_14 : decode cX3_save 14 = .ok (.iastore, 1) := by decide +kernel
theorem dX3_save_15 : decode cX3_save 15 = .ok (.aload_n 1, 1) := by decide +kernel
theorem dX3_save_16 : decode cX3_save 16 = .ok (.iconst 1, 1) := by decide +kernel
theorem dX3_save_17 : decode cX3_save 17 = .ok (.aload_n 0, 1) := by decide +kernel
theorem dX3_save_18 : decode cX3_save 18 = .ok (.getfield 52, 3) := by decide +kernel
theorem dX3_save_21 : decode cX3_save 21 = .ok (.ifCond .eq 7, 3) := by decide +kernel
theorem dX3_save_24 : decode cX3_save 24 = .ok (.iconst 1, 1) := by decide +kernel
theorem dX3_save_25 : decode cX3_save 25 = .ok (.goto 4, 3) := by decide +kernel
theorem dX3_save_28 : decode cX3_save 28 = .ok (.iconst 0, 1) := by decide +kernel
theorem dX3_save_29 : decode cX3_save 29 = .ok (.iastore, 1) := by decide +kernel
theorem dX3_save_30 : decode cX3_save 30 = .ok (.aload_n 1, 1) := by decide +kernel
theorem dX3_save_31 : decode cX3_save 31 = .ok (.iconst 2, 1) := by decide +kernel
theorem dX3_save_32 : decode cX3_save 32 = .ok (.aload_n 0, 1) := by decide +kernel
theorem dX3_save_33 : decode cX3_save 33 = .ok (.getfield 56, 3) := by decide +kernel
theorem dX3_save_36 : decode cX3_save 36 = .ok (.iastore, 1) := by decide +kernel
theorem dX3_save_37 : decode cX3_save 37 = .ok (.iconst 3, 1) := by decide +kernel
theorem dX3_save_38 : decode cX3_save 38 = .ok (.istore_n 2, 1) := by decide +kernel
theorem dX3_save_39 : decode cX3_save 39 = .ok (.aload_n 0, 1) := by decide +kernel
theorem dX3_save_40 : decode cX3_save 40 = .ok (.getfield 11, 3) := by decide +kernel
theorem dX3_save_43 : decode cX3_save 43 = .ok (.aload_n 1, 1) := by decide +kernel
theorem dX3_save_44 : decode cX3_save 44 = .ok (.iload_n 2, 1) := by decide +kernel
theorem dX3_save_45 : decode cX3_save 45 = .ok (.invokestatic 154, 3) := by decide +kernel
theorem dX3_save_48 : decode cX3_save 48 = .ok (.istore_n 2, 1) := by decide +kernel
theorem dX3_save_49 : decode cX3_save 49 = .ok (.aload_n 0, 1) := by decide +kernel
theorem dX3_save_50 : decode cX3_save 50 = .ok (.getfield 15, 3) := by decide +kernel
theorem dX3_save_53 : decode cX3_save 53 = .ok (.aload_n 1, 1) := by decide +kernel
theorem dX3_save_54 : decode cX3_save 54 = .ok (.iload_n 2, 1) := by decide +kernel
theorem dX3_save_55 : decode cX3_save 55 = .ok (.invokestatic 154, 3) := by decide +kernel
theorem dX3_save_58 : decode cX3_save 58 = .ok (.istore_n 2, 1) := by decide +kernel
theorem dX3_save_59 : decode cX3_save 59 = .ok (.aload_n 0, 1) := by decide +kernel
theorem dX3_save_60 : decode cX3_save 60 = .ok (.getfield 18, 3) := by decide +kernel
theorem dX3_save_63 : decode cX3_save 63 = .ok (.aload_n 1, 1) := by decide +kernel
theorem dX3_save_64 : decode cX3_save 64 = .ok (.iload_n 2, 1) := by decide +kernel
theorem dX3_save_65 : decode cX3_save 65 = .ok (.invokestatic 154, 3) := by decide +kernel
theorem dX3_save_68 : decode cX3_save 68 = .ok (.istore_n 2, 1) := by decide +kernel
theorem dX3_save_69 : decode cX3_save 69 = .ok (.aload_n 0, 1) := by decide +kernel
theorem dX3_save_70 : decode cX3_save 70 = .ok (.getfield 21, 3) := by decide +kernel
theorem dX3_save_73 : decode cX3_save 73 = .ok (.aload_n 1, 1) := by decide +kernel
theorem dX3_save_74 : decode cX3_save 74 = .ok (.iload_n 2, 1) := by decide +kernel
theorem dX3_save_75 : decode cX3_save 75 = .ok (.invokestatic 154, 3) := by decide +kernel
theorem dX3_save_78 : decode cX3_save 78 = .ok (.istore_n 2, 1) := by decide +kernel
theorem dX3_save_79 : decode cX3_save 79 = .ok (.aload_n 0, 1) := by decide +kernel
theorem dX3_save_80 : decode cX3_save 80 = .ok (.getfield 24, 3) := by decide +kernel
theorem dX3_save_83 : decode cX3_save 83 = .ok (.aload_n 1, 1) := by decide +kernel
theorem dX3_save_84 : decode cX3_save 84 = .ok (.iload_n 2, 1) := by decide +kernel
theorem dX3_save_85 : decode cX3_save 85 = .ok (.invokestatic 154, 3) := by decide +kernel
theorem dX3_save_88 : decode cX3_save 88 = .ok (.istore_n 2, 1) := by decide +kernel
theorem dX3_save_89 : decode cX3_save 89 = .ok (.aload_n 0, 1) := by decide +kernel
theorem dX3_save_90 : decode cX3_save 90 = .ok (.getfield 27, 3) := by decide +kernel
theorem dX3_save_93 : decode cX3_save 93 = .ok (.aload_n 1, 1) := by decide +kernel
theorem dX3_save_94 : decode cX3_save 94 = .ok (.iload_n 2, 1) := by decide +kernel
theorem dX3_save_95 : decode cX3_save 95 = .ok (.invokestatic 154, 3) := by decide +kernel
theorem dX3_save_98 : decode cX3_save 98 = .ok (.istore_n 2, 1) := by decide +kernel
theorem dX3_save_99 : decode cX3_save 99 = .ok (.aload_n 0, 1) := by decide +kernel
theorem dX3_save_100 : decode cX3_save 100 = .ok (.getfield 30, 3) := by decide +kernel
theorem dX3_save_103 : decode cX3_save 103 = .ok (.aload_n 1, 1) := by decide +kernel
theorem dX3_save_104 : decode cX3_save 104 = .ok (.iload_n 2, 1) := by decide +kernel
theorem dX3_save_105 : decode cX3_save 105 = .ok (.invokestatic 154, 3) := by decide +kernel
theorem dX3_save_108 : decode cX3_save 108 = .ok (.istore_n 2, 1) := by decide +kernel
theorem dX3_save_109 : decode cX3_save 109 = .ok (.aload_n 0, 1) := by decide +kernel
theorem dX3_save_110 : decode cX3_save 110 = .ok (.getfield 33, 3) := by decide +kernel
theorem dX3_save_113 : decode cX3_save 113 = .ok (.aload_n 1, 1) := by decide +kernel
theorem dX3_save_114 : decode cX3_save 114 = .ok (.iload_n 2, 1) := by decide +kernel
theorem dX3_save_115 : decode cX3_save 115 = .ok (.invokestatic 154, 3) := by decide +kernel
theorem dX3_save_118 : decode cX3_save 118 = .ok (.istore_n 2, 1) := by decide +kernel
theorem dX3_save_119 : decode cX3_save 119 = .ok (.aload_n 0, 1) := by decide +kernel
theorem dX3_save_120 : decode cX3_save 120 = .ok (.getfield 36, 3) := by decide +kernel
theorem dX3_save_123 : decode cX3_save 123 = .ok (.aload_n 1, 1) := by decide +kernel
theorem dX3_save_124 : decode cX3_save 124 = .ok (.iload_n 2, 1) := by decide +kernel
theorem dX3_save_125 : decode cX3_save 125 = .ok (.invokestatic 154, 3) := by decide +kernel
theorem dX3_save_128 : decode cX3_save 128 = .ok (.istore_n 2, 1) := by decide +kernel
theorem dX3_save_129 : decode cX3_save 129 = .ok (.aload_n 0, 1) := by decide +kernel
theorem dX3_save_130 : decode cX3_save 130 = .ok (.getfield 39, 3) := by decide +kernel
theorem dX3_save_133 : decode cX3_save 133 = .ok (.aload_n 1, 1) := by decide +kernel
theorem dX3_save_134 : decode cX3_save 134 = .ok (.iload_n 2, 1) := by decide +kernel
theorem dX3_save_135 : decode cX3_save 135 = .ok (.invokestatic 154, 3) := by decide +kernel
theorem dX3_save_138 : decode cX3_save 138 = .ok (.istore_n 2, 1) := by decide +kernel
theorem dX3_save_139 : decode cX3_save 139 = .ok (.aload_n 0, 1) := by decide +kernel
theorem dX3_save_140 : decode cX3_save 140 = .ok (.getfield 42, 3) := by decide +kernel
theorem dX3_save_143 : decode cX3_save 143 = .ok (.aload_n 1, 1) := by decide +kernel
theorem dX3_save_144 : decode cX3_save 144 = .ok (.iload_n 2, 1) := by decide +kernel
theorem dX3_save_145 : decode cX3_save 145 = .ok (.invokestatic 154, 3) := by decide +kernel
theorem dX3_save_148 : decode cX3_save 148 = .ok (.istore_n 2, 1) := by decide +kernel
theorem dX3_save_149 : decode cX3_save 149 = .ok (.aload_n 0, 1) := by decide +kernel
theorem dX3_save_150 : decode cX3_save 150 = .ok (.getfield 45, 3) := by decide +kernel
theorem dX3_save_153 : decode cX3_save 153 = .ok (.aload_n 1, 1) := by decide +kernel
theorem dX3_save_154 : decode cX3_save 154 = .ok (.iload_n 2, 1) := by decide +kernel
theorem dX3_save_155 : decode cX3_save 155 = .ok (.invokestatic 154, 3) := by decide +kernel
theorem dX3_save_158 : decode cX3_save 158 = .ok (.pop, 1) := by decide +kernel
theorem dX3_save_159 : decode cX3_save 159 = .ok (.return_, 1) := by decide +kernel
theorem dX3_put_0 : decode cX3_put 0 = .ok (.iload_n 2, 1) := by decide +kernel
theorem dX3_put_1 : decode cX3_put 1 = .ok (.ifCond .lt 12, 3) := by decide +kernel
theorem dX3_put_4 : decode cX3_put 4 = .ok (.iload_n 2, 1) := by decide +kernel
theorem dX3_put_5 : decode cX3_put 5 = .ok (.aload_n 1, 1) := by decide +kernel
theorem dX3_put_6 : decode cX3_put 6 = .ok (.arraylength, 1) := by decide +kernel
theorem dX3_put_7 : decode cX3_put 7 = .ok (.aload_n 0, 1) := by decide +kernel
theorem dX3_put_8 : decode cX3_put 8 = .ok (.arraylength, 1) := by decide +kernel
theorem dX3_put_9 : decode cX3_put 9 = .ok (.isub, 1) := by decide +kernel
theorem dX3_put_10 : decode cX3_put 10 = .ok (.if_icmp .le 5, 3) := by decide +kernel
theorem dX3_put_13 : decode cX3_put 13 = .ok (.iload_n 2, 1) := by decide +kernel
theorem dX3_put_14 : decode cX3_put 14 = .ok (.ireturn, 1) := by decide +kernel
theorem dX3_put_15 : decode cX3_put 15 = .ok (.aload_n 0, 1) := by decide +kernel
theorem dX3_put_16 : decode cX3_put 16 = .ok (.iconst 0, 1) := by decide +kernel
theorem dX3_put_17 : decode cX3_put 17 = .ok (.aload_n 1, 1) := by decide +kernel
theorem dX3_put_18 : decode cX3_put 18 = .ok (.iload_n 2, 1) := by decide +kernel
theorem dX3_put_19 : decode cX3_put 19 = .ok (.aload_n 0, 1) := by decide +kernel
theorem dX3_put_20 : decode cX3_put 20 = .ok (.arraylength, 1) := by decide +kernel
theorem dX3_put_21 : decode cX3_put 21 = .ok (.invokestatic 158, 3) := by decide +kernel
theorem dX3_put_24 : decode cX3_put 24 = .ok (.iload_n 2, 1) := by decide +kernel
theorem dX3_put_25 : decode cX3_put 25 = .ok (.aload_n 0, 1) := by decide +kernel
theorem dX3_put_26 : decode cX3_put 26 = .ok (.arraylength, 1) := by decide +kernel
theorem dX3_put_27 : decode cX3_put 27 = .ok (.iadd, 1) := by decide +kernel
theorem dX3_put_28 : decode cX3_put 28 = .ok (.ireturn, 1) := by decide +kernel
set_option maxRecDepth 20000 in
theorem ggX3_load_X3_get : GoodIn wsX3_load wsX3_get := goodIn_r _ [19, 20, 21, 22, 23] (by decide +kernel) (by decide +kernel)
set_option maxRecDepth 20000 in
theorem gX3_load_X3_get : GoodIn wsX3_load (va_wsS RX3 164 yX3_get wsX3_get) := goodIn_app (goodIn_of _ (by decide +kernel)) ggX3_load_X3_get
theorem dX3_load_0 : decode cX3_load 0 = .ok (.aload_n 1, 1) := by decide +kernel
theorem dX3_load_1 : decode cX3_load 1 = .ok (.arraylength, 1) := by decide +kernel
theorem dX3_load_2 : decode cX3_load 2 = .ok (.bipush 83, 2) := by decide +kernel
theorem dX3_load_4 : decode cX3_load 4 = .ok (.if_icmp .eq 4, 3) := by decide +kernel
theorem dX3_load_7 : decode cX3_load 7 = .ok (.return_, 1) := by decide +kernel
theorem dX3_load_8 : decode cX3_load 8 = .ok (.aload_n 0, 1) := by decide +kernel
theorem dX3_load_9 : decode cX3_load 9 = .ok (.aload_n 1, 1) := by decide +kernel
theorem dX3_load_10 : decode cX3_load 10 = .ok (.iconst 0, 1) := by decide +kernel
theorem dX3_load_11 : decode cX3_load 11 = .ok (.iaload, 1) := by decide +kernel
theorem dX3_load_12 : decode cX3_load 12 = .ok (.putfield 48, 3) := by decide +kernel
theorem dX3_load_15 : decode cX3_load 15 = .ok (.aload_n 0, 1) := by decide +kernel
theorem dX3_load_16 : decode cX3_load 16 = .ok (.aload_n 1, 1) := by decide +kernel
theorem dX3_load_17 : decode cX3_load 17 = .ok (.iconst 1, 1) := by decide +kernel
theorem dX3_load_18 : decode cX3_load 18 = .ok (.iaload, 1) := by decide +kernel
theorem dX3_load_19 : decode cX3_load 19 = .ok (.iconst 1, 1) := by decide +kernel
theorem dX3_load_20 : decode cX3_load 20 = .ok (.if_icmp .ne 7, 3) := by decide +kernel
theorem dX3_load_23 : decode cX3_load 23 = .ok (.iconst 1, 1) := by decide +kernel
theorem dX3_load_24 : decode cX3_load 24 = .ok (.goto 4, 3) := by decide +kernel
theorem dX3_load_27 : decode cX3_load 27 = .ok (.iconst 0, 1) := by decide +kernel
theorem dX3_load_28 : decode cX3_load 28 = .ok (.putfield 52, 3) := by decide +kernel
theorem dX3_load_31 : decode cX3_load 31 = .ok (.aload_n 0, 1) := by decide +kernel
theorem dX3_load_32 : decode cX3_load 32 = .ok (.aload_n 1, 1) := by decide +kernel
theorem dX3_load_33 : decode cX3_load 33 = .ok (.iconst 2, 1) := by decide +kernel
theorem dX3_load_34 : decode cX3_load 34 = .ok (.iaload, 1) := by decide +kernel
theorem dX3_load_35 : decode cX3_load 35 = .ok (.putfield 56, 3) := by decide +kernel
theorem dX3_load_38 : decode cX3_load 38 = .ok (.iconst 3, 1) := by decide +kernel
theorem dX3_load_39 : decode cX3_load 39 = .ok (.istore_n 2, 1) := by decide +kernel
theorem dX3_load_40 : decode cX3_load 40 = .ok (.aload_n 0, 1) := by decide +kernel
theorem dX3_load_41 : decode cX3_load 41 = .ok (.getfield 11, 3) := by decide +kernel
theorem dX3_load_44 : decode cX3_load 44 = .ok (.aload_n 1, 1) := by decide +kernel
theorem dX3_load_45 : decode cX3_load 45 = .ok (.iload_n 2, 1) := by decide +kernel
theorem dX3_load_46 : decode cX3_load 46 = .ok (.invokestatic 164, 3) := by decide +kernel
theorem dX3_load_49 : decode cX3_load 49 = .ok (.istore_n 2, 1) := by decide +kernel
theorem dX3_load_50 : decode cX3_load 50 = .ok (.aload_n 0, 1) := by decide +kernel
theorem dX3_load_51 : decode cX3_load 51 = .ok (.getfield 15, 3) := by decide +kernel
theorem dX3_load_54 : decode cX3_load 54 = .ok (.aload_n 1, 1) := by decide +kernel
theorem dX3_load_55 : decode cX3_load 55 = .ok (.iload_n 2, 1) := by decide +kernel
theorem dX3_load_56 : decode cX3_load 56 = .ok (.invokestatic 164, 3) := by decide +kernel
theorem dX3_load_59 : decode cX3_load 59 = .ok (.istore_n 2, 1) := by decide +kernel
theorem dX3_load_60 : decode cX3_load 60 = .ok (.aload_n 0, 1) := by decide +kernel
theorem dX3_load_61 : decode cX3_load 61 = .ok (.getfield 18, 3) := by decide +kernel
theorem dX3_load_64 : decode cX3_load 64 = .ok (.aload_n 1, 1) := by decide +kernel
theorem dX3_load_65 : decode cX3_load 65 = .ok (.iload_n 2, 1) := by decide +kernel
theorem dX3_load_66 : decode cX3_load 66 = .ok (.invokestatic 164, 3) := by decide +kernel
theorem dX3_load_69 : decode cX3_load 69 = .ok (.istore_n 2, 1) := by decide +kernel
theorem dX3_load_70 : decode cX3_load 70 = .ok (.aload_n 0, 1) := by decide +kernel
theorem dX3_load_71 : decode cX3_load 71 = .ok (.getfield 21, 3) := by decide +kernel
theorem dX3_load_74 : decode cX3_load 74 = .ok (.aload_n 1, 1) := by decide +kernel
theorem dX3_load_75 : decode cX3_load 75 = .ok (.iload_n 2, 1) := by decide +kernel
theorem dX3_load_76 : decode cX3_load 76 = .ok (.invokestatic 164, 3) := by decide +kernel
theorem dX3_load_79 : decode cX3_load 79 = .ok (.istore_n 2, 1) := by decide +kernel
theorem dX3_load_80 : decode cX3_load 80 = .ok (.aload_n 0, 1) := by decide +kernel
theorem dX3_load_81 : decode cX3_load 81 = .ok (.getfield 24, 3) := by decide +kernel
theorem dX3_load_84 : decode cX3_load 84 = .ok (.aload_n 1, 1) := by decide +kernel
theorem dX3_load_85 : decode cX3_load 85 = .ok (.iload_n 2, 1) := by decide +kernel
theorem dX3_load_86 : decode cX3_load 86 = .ok (.invokestatic 164, 3) := by decide +kernel
theorem dX3_load_89 : decode cX3_load 89 = .ok (.istore_n 2, 1) := by decide +kernel
theorem dX3_load_90 : decode cX3_load 90 = .ok (.aload_n 0, 1) := by decide +kernel
theorem dX3_load_91 : decode cX3_load 91 = .ok (.getfield 27, 3) := by decide +kernel
theorem dX3_load_94 : decode cX3_load 94 = .ok (.aload_n 1, 1) := by decide +kernel
theorem dX3_load_95 : decode cX3_load 95 = .ok (.iload_n 2, 1) := by decide +kernel
theorem dX3_load_96 : decode cX3_load 96 = .ok (.invokestatic 164, 3) := by decide +kernel
theorem dX3_load_99 : decode cX3_load 99 = .ok (.istore_n 2, 1) := by decide +kernel
theorem dX3_load_100 : decode cX3_load 100 = .ok (.aload_n 0, 1) := by decide +kernel
theorem dX3_load_101 : decode cX3_load 101 = .ok (.getfield 30, 3) := by decide +kernel
theorem dX3_load_104 : decode cX3_load 104 = .ok (.aload_n 1, 1) := by decide +kernel
theorem dX3_load_105 : decode cX3_load 105 = .ok (.iload_n 2, 1) := by decide +kernel
theorem dX3_load_106 : decode cX3_load 106 = .ok (.invokestatic 164, 3) := by decide +kernel
theorem dX3_load_109 : decode cX3_load 109 = .ok (.istore_n 2, 1) := by decide +kernel
theorem dX3_load_110 : decode cX3_load 110 = .ok (.aload_n 0, 1) := by decide +kernel
theorem dX3_load_111 : decode cX3_load 111 = .ok (.getfield 33, 3) := by decide +kernel
theorem dX3_load_114 : decode cX3_load 114 = .ok (.aload_n 1, 1) := by decide +kernel
theorem dX3_load_115 : decode cX3_load 115 = .ok (.iload_n 2, 1) := by decide +kernel
theorem dX3_load_116 : decode cX3_load 116 = .ok (.invokestatic 164, 3) := by decide +kernel
theorem dX3_load_119 : decode cX3_load 119 = .ok (.istore_n 2, 1) := by decide +kernel
theorem dX3_load_120 : decode cX3_load 120 = .ok (.aload_n 0, 1) := by decide +kernel
theorem dX3_load_121 : decode cX3_load 121 = .ok (.getfield 36, 3) := by decide +kernel
theorem dX3_load_124 : decode cX3_load 124 = .ok (.aload_n 1, 1) := by decide +kernel
theorem dX3_load_125 : decode cX3_load 125 = .ok (.iload_n 2, 1) := by decide +kernel
theorem dX3_load_126 : decode cX3_load 126 = .ok (.invokestatic 164, 3) := by decide +kernel
theorem dX3_load_129 : decode cX3_load 129 = .ok (.istore_n 2, 1) := by decide +kernel
theorem dX3_load_130 : decode cX3_load 130 = .ok (.aload_n 0, 1) := by decide +kernel
theorem dX3_load_131 : decode cX3_load 131 = .ok (.getfield 39, 3) := by decide +kernel
theorem dX3_load_134 : decode cX3_load 134 = .ok (.aload_n 1, 1) := by decide +kernel
theorem dX3_load_135 : decode cX3_load 135 = .ok (.iload_n 2, 1) := by decide +kernel
theorem dX3_load_136 : decode cX3_load 136 = .ok (.invokestatic 164, 3) := by decide +kernel
theorem dX3_load_139 : decode cX3_load 139 = .ok (.istore_n 2, 1) := by decide +kernel
theorem dX3_load_140 : decode cX3_load 140 = .ok (.aload_n 0, 1) := by decide +kernel
theorem dX3_load_141 : decode cX3_load 141 = .ok (.getfield 42, 3) := by decide +kernel
theorem dX3_load_144 : decode cX3_load 144 = .ok (.aload_n 1, 1) := by decide +kernel
theorem dX3_load_145 : decode cX3_load 145 = .ok (.iload_n 2, 1) := by decide +kernel
theorem dX3_load_146 : decode cX3_load 146 = .ok (.invokestatic 164, 3) := by decide +kernel
theorem dX3_load_149 : decode cX3_load 149 = .ok (.istore_n 2, 1) := by decide +kernel
theorem dX3_load_150 : decode cX3_load 150 = .ok (.aload_n 0, 1) := by decide +kernel
theorem dX3_load_151 : decode cX3_load 151 = .ok (.getfield 45, 3) := by decide +kernel
theorem dX3_load_154 : decode cX3_load 154 = .ok (.aload_n 1, 1) := by decide +kernel
theorem dX3_load_155 : decode cX3_load 155 = .ok (.iload_n 2, 1) := by decide +kernel
theorem dX3_load_156 : decode cX3_load 156 = .ok (.invokestatic 164, 3) := by decide +kernel
theorem dX3_load_159 : decode cX3_load 159 = .ok (.pop, 1) := by decide +kernel
theorem dX3_load_160 : decode cX3_load 160 = .ok (.return_, 1) := by decide +kernel
theorem dX3_get_0 : decode cX3_get 0 = .ok (.iload_n 2, 1) := by decide +kernel
theorem dX3_get_1 : decode cX3_get 1 = .ok (.ifCond .lt 12, 3) := by decide +kernel
theorem dX3_get_4 : decode cX3_get 4 = .ok (.iload_n 2, 1) := by decide +kernel
theorem dX3_get_5 : decode cX3_get 5 = .ok (.aload_n 1, 1) := by decide +kernel
theorem dX3_get_6 : decode cX3_get 6 = .ok (.arraylength, 1) := by decide +kernel
theorem dX3_get_7 : decode cX3_get 7 = .ok (.aload_n 0, 1) := by decide +kernel
theorem dX3_get_8 : decode cX3_get 8 = .ok (.arraylength, 1) := by decide +kernel
theorem dX3_get_9 : decode cX3_get 9 = .ok (.isub, 1) := by decide +kernel
theorem dX3_get_10 : decode cX3_get 10 = .ok (.if_icmp .le 5, 3) := by decide +kernel
theorem dX3_get_13 : decode cX3_get 13 = .ok (.iload_n 2, 1) := by decide +kernel
theorem dX3_get_14 : decode cX3_get 14 = .ok (.ireturn, 1) := by decide +kernel
theorem dX3_get_15 : decode cX3_get 15 = .ok (.aload_n 1, 1) := by decide +kernel
theorem dX3_get_16 : decode cX3_get 16 = .ok (.iload_n 2, 1) := by decide +kernel
theorem dX3_get_17 : decode cX3_get 17 = .ok (.aload_n 0, 1) := by decide +kernel
theorem dX3_get_18 : decode cX3_get 18 = .ok (.iconst 0, 1) := by decide +kernel
theorem dX3_get_19 : decode cX3_get 19 = .ok (.aload_n 0, 1) := by decide +kernel
theorem dX3_get_20 : decode cX3_get 20 = .ok (.arraylength, 1) := by decide +kernel
theorem dX3_get_21 : decode cX3_get 21 = .ok (.invokestatic 158, 3) := by decide +kernel
theorem dX3_get_24 : decode cX3_get 24 = .ok (.iload_n 2, 1) := by decide +kernel
theorem dX3_get_25 : decode cX3_get 25 = .ok (.aload_n 0, 1) := by decide +kernel
theorem dX3_get_26 : decode cX3_get 26 = .ok (.arraylength, 1) := by decide +kernel
theorem dX3_get_27 : decode cX3_get 27 = .ok (.iadd, 1) := by decide +kernel
theorem dX3_get_28 : decode cX3_get 28 = .ok (.ireturn, 1) := by decide +kernel
theorem dX4_init_0 : decode cX4_init 0 = .ok (.aload_n 0, 1) := by decide +kernel
theorem dX4_init_1 : decode cX4_init 1 = .ok (.invokespecial 1, 3) := by decide +kernel
theorem dX4_init_4 : decode cX4_init 4 = .ok (.aload_n 0, 1) := by decide +kernel
theorem dX4_init_5 : decode cX4_init 5 = .ok (.bipush 16, 2) := by decide +kernel
theorem dX4_init_7 : decode cX4_init 7 = .ok (.bipush 83, 2) := by decide +kernel
theorem dX4_init_9 : decode cX4_init 9 = .ok (.multianewarray 11 2, 4) := by decide +kernel
theorem dX4_init_13 : decode cX4_init 13 = .ok (.putfield 13, 3) := by decide +kernel
theorem dX4_init_16 : decode cX4_init 16 = .ok (.return_, 1) := by decide +kernel
set_option maxRecDepth 20000 in
theorem ggX4_add_X3_save : GoodIn wsX4_add wsX3_save := goodIn_r _ [8, 9, 10, 11, 12, 13, 14, 15, 16, 17, 18, 19, 20, 21, 22, 23, 24, 25, 7, 26, 27, 28, 29, 30, 34, 35, 36, 37, 38, 39, 40, 41, 42, 43, 44, 45, 46, 47, 48] (by decide +kernel) (by decide +kernel)
set_option maxRecDepth 20000 in
theorem gX4_add_X3_save : GoodIn wsX4_add (wsV RX4 20 RX3 yX3_save wsX3_save) := goodIn_app (goodIn_of _ (by decide +kernel)) ggX4_add_X3_save
theorem dX4_add_0 : decode cX4_add 0 = .ok (.aload_n 1, 1) := by decide +kernel
theorem dX4_add_1 : decode cX4_add 1 = .ok (.aload_n 0, 1) := by decide +kernel
theorem dX4_add_2 : decode cX4_add 2 = .ok (.getfield 13, 3) := by decide +kernel
theorem dX4_add_5 : decode cX4_add 5 = .ok (.aload_n 0, 1) := by decide +kernel
theorem dX4_add_6 : decode cX4_add 6 = .ok (.getfield 16, 3) := by decide +kernel
theorem dX4_add_9 : decode cX4_add 9 = .ok (.aaload, 1) := by decide +kernel
theorem dX4_add_10 : decode cX4_add 10 = .ok (.invokevirtual 20, 3) := by decide +kernel
theorem dX4_add_13 : decode cX4_add 13 = .ok (.aload_n 0, 1) := by decide +kernel
theorem dX4_add_14 : decode cX4_add 14 = .ok (.aload_n 0, 1) := by decide +kernel
theorem dX4_add_15 : decode cX4_add 15 = .ok (.getfield 16, 3) := by decide +kernel
theorem dX4_add_18 : decode cX4_add 18 = .ok (.iconst 1, 1) := by decide +kernel
theorem dX4_add_19 : decode cX4_add 19 = .ok (.iadd, 1) := by decide +kernel
theorem dX4_add_20 : decode cX4_add 20 = .ok (.bipush 16, 2) := by decide +kernel
theorem dX4_add_22 : decode cX4_add 22 = .ok (.irem, 1) := by decide +kernel
theorem dX4_add_23 : decode cX4_add 23 = .ok (.putfield 16, 3) := by decide +kernel
theorem dX4_add_26 : decode cX4_add 26 = .ok (.aload_n 0, 1) := by decide +kernel
theorem dX4_add_27 : decode cX4_add 27 = .ok (.getfield 24, 3) := by decide +kernel
theorem dX4_add_30 : decode cX4_add 30 = .ok (.bipush 16, 2) := by decide +kernel
theorem dX4_add_32 : decode cX4_add 32 = .ok (.if_icmp .ge 13, 3) := by decide +kernel
theorem dX4_add_35 : decode cX4_add 35 = .ok (.aload_n 0, 1) := by decide +kernel
theorem dX4_add_36 : decode cX4_add 36 = .ok (.dup, 1) := by decide +kernel
theorem dX4_add_37 : decode cX4_add 37 = .ok (.getfield 24, 3) := by decide +kernel
theorem dX4_add_40 : decode cX4_add 40 = .ok (.iconst 1, 1) := by decide +kernel
theorem dX4_add_41 : decode cX4_add 41 = .ok (.iadd, 1) := by decide +kernel
theorem dX4_add_42 : decode cX4_add 42 = .ok (.putfield 24, 3) := by decide +kernel
theorem dX4_add_45 : decode cX4_add 45 = .ok (.return_, 1) := by decide +kernel
set_option maxRecDepth 20000 in
theorem ggX4_takeBack_X3_load : GoodIn wsX4_takeBack wsX3_load := goodIn_r _ [8, 9, 10, 11, 12, 13, 14, 15, 16, 17, 18, 19, 20, 21, 22, 23, 24, 25, 7, 26, 27, 28, 29, 30, 34, 35, 36, 37, 38, 39, 40, 41, 42, 43, 44, 45, 46, 47, 48] (by decide +kernel) (by decide +kernel)
set_option maxRecDepth 20000 in
theorem gX4_takeBack_X3_load : GoodIn wsX4_takeBack (wsV RX4 27 RX3 yX3_load wsX3_load) := goodIn_app (goodIn_of _ (by decide +kernel)) ggX4_takeBack_X3_load
theorem dX4_takeBack_0 : decode cX4_takeBack 0 = .ok (.iload_n 1, 1) := by decide +kernel
theorem dX4_takeBack_1 : decode cX4_takeBack 1 = .ok (.iconst 1, 1) := by decide +kernel
theorem dX4_takeBack_2 : decode cX4_takeBack 2 = .ok (.if_icmp .lt 11, 3) := by decide +kernel
theorem dX4_takeBack_5 : decode cX4_takeBack 5 = .ok (.iload_n 1, 1) := by decide +kernel
theorem dX4_takeBack_6 : decode cX4_takeBack 6 = .ok (.aload_n 0, 1) := by decide +kernel
theorem dX4_takeBack_7 : decode cX4_takeBack 7 = .ok (.getfield 24, 3) := by decide +kernel
theorem dX4_takeBack_10 : decode cX4_takeBack 10 = .ok (.if_icmp .le 4, 3) := by decide +kernel
theorem dX4_takeBack_13 : decode cX4_takeBack 13 = .ok (.return_, 1) := by decide +kernel
theorem dX4_takeBack_14 : decode cX4_takeBack 14 = .ok (.aload_n 0, 1) := by decide +kernel
theorem dX4_takeBack_15 : decode cX4_takeBack 15 = .ok (.aload_n 0, 1) := by decide +kernel
theorem dX4_takeBack_16 : decode cX4_takeBack 16 = .ok (.getfield 16, 3) := by decide +kernel
theorem dX4_takeBack_19 : decode cX4_takeBack 19 = .ok (.bipush 16, 2) := by decide +kernel
theorem dX4_takeBack_21 : decode cX4_takeBack 21 = .ok (.iadd, 1) := by decide +kernel
theorem dX4_takeBack_22 : decode cX4_takeBack 22 = .ok (.iload_n 1, 1) := by decide +kernel
theorem dX4_takeBack_23 : decode cX4_takeBack 23 = .ok (.isub, 1) := by decide +kernel
theorem dX4_takeBack_24 : decode cX4_takeBack 24 = .ok (.bipush 16, 2) := by decide +kernel
theorem dX4_takeBack_26 : decode cX4_takeBack 26 = .ok (.irem, 1) := by decide +kernel
theorem dX4_takeBack_27 : decode cX4_takeBack 27 = .ok (.putfield 16, 3) := by decide +kernel
theorem dX4_takeBack_30 : decode cX4_takeBack 30 = .ok (.aload_n 0, 1) := by decide +kernel
theorem dX4_takeBack_31 : decode cX4_takeBack 31 = .ok (.dup, 1) := by decide +kernel
theorem dX4_takeBack_32 : decode cX4_takeBack 32 = .ok (.getfield 24, 3) := by decide +kernel
theorem dX4_takeBack_35 : decode cX4_takeBack 35 = .ok (.iload_n 1, 1) := by decide +kernel
theorem dX4_takeBack_36 : decode cX4_takeBack 36 = .ok (.isub, 1) := by decide +kernel
theorem dX4_takeBack_37 : decode cX4_takeBack 37 = .ok (.putfield 24, 3) := by decide +kernel
theorem dX4_takeBack_40 : decode cX4_takeBack 40 = .ok (.aload_n 2, 1) := by decide +kernel
theorem dX4_takeBack_41 : decode cX4_takeBack 41 = .ok (.aload_n 0, 1) := by decide +kernel
theorem dX4_takeBack_42 : decode cX4_takeBack 42 = .ok (.getfield 13, 3) := by decide +kernel
theorem dX4_takeBack_45 : decode cX4_takeBack 45 = .ok (.aload_n 0, 1) := by decide +kernel
theorem dX4_takeBack_46 : decode cX4_takeBack 46 = .ok (.getfield 16, 3) := by decide +kernel
theorem dX4_takeBack_49 : decode cX4_takeBack 49 = .ok (.aaload, 1) := by decide +kernel
theorem dX4_takeBack_50 : decode cX4_takeBack 50 = .ok (.invokevirtual 27, 3) := by decide +kernel
theorem dX4_takeBack_53 : decode cX4_takeBack 53 = .ok (.return_, 1) := by decide +kernel
end
section
set_option maxRecDepth 20000 in
theorem ggX5_init_X3_init : GoodIn wsX5_init wsX3_init := goodIn_r _ [27, 28, 2, 3, 24, 29, 30, 31, 32, 33, 34, 35, 36, 37, 38, 39, 40, 73, 74, 75, 76, 77, 78, 79, 80, 81, 82, 83, 84, 85, 86, 87] (by decide +kernel) (by decide +kernel)
set_option maxRecDepth 20000 in
theorem gX5_init_X3_init_n9 : GoodIn wsX5_init (wsX3_init) := ggX5_init_X3_init
set_option maxRecDepth 20000 in
theorem ggX5_init_X4_init : GoodIn wsX5_init wsX4_init := goodIn_r _ [42, 43, 2, 3, 44, 24, 45, 94, 95, 96] (by decide +kernel) (by decide +kernel)
set_option maxRecDepth 20000 in
theorem gX5_init_X4_init_n18 : GoodIn wsX5_init (wsX4_init) := ggX5_init_X4_init
set_option maxRecDepth 20000 in
theorem ggX5_init_X0_init : GoodIn wsX5_init wsX0_init := goodIn_r _ [47, 48, 2, 3, 24, 49, 50, 97, 98, 99] (by decide +kernel) (by decide +kernel)
set_option maxRecDepth 20000 in
theorem gX5_init_X0_init_n25 : GoodIn wsX5_init (wsX0_init) := ggX5_init_X0_init
set_option maxRecDepth 20000 in
theorem ggX5_init_X1_init : GoodIn wsX5_init wsX1_init := goodIn_r _ [52, 53, 2, 3] (by decide +kernel) (by decide +kernel)
set_option maxRecDepth 20000 in
theorem gX5_init_X1_init_n32 : GoodIn wsX5_init (wsX1_init) := ggX5_init_X1_init
set_option maxRecDepth 20000 in
theorem ggX5_init_X2_init : GoodIn wsX5_init wsX2_init := goodIn_r _ [55, 56, 2, 3, 57, 24, 58, 59, 60, 61, 101, 102, 103] (by decide +kernel) (by decide +kernel)
set_option maxRecDepth 20000 in
theorem gX5_init_X2_init_n39 : GoodIn wsX5_init (wsX2_init) := ggX5_init_X2_init
set_option maxRecDepth 20000 in
theorem ggX5_init_X3_begin : GoodIn wsX5_init wsX3_begin := goodIn_r _ [65, 66, 67, 68, 29, 30, 31, 32, 33, 34, 35, 36, 37, 38, 39, 40, 69, 70, 71, 72, 73, 74, 75, 76, 77, 78, 79, 80, 81, 82, 83, 84, 85, 86, 87] (by decide +kernel) (by decide +kernel)
set_option maxRecDepth 20000 in
theorem gX5_init_X3_begin : GoodIn wsX5_init (wsV RX5 48 RX3 yX3_begin wsX3_begin) := goodIn_app (goodIn_of _ (by decide +kernel)) ggX5_init_X3_begin
theorem dX5_init_0 : decode cX5_init 0 = .ok (.aload_n 0, 1) := by decide +kernel
theorem dX5_init_1 : decode cX5_init 1 = .ok (.invokespecial 1, 3) := by decide +kernel
theorem dX5_init_4 : decode cX5_init 4 = .ok (.aload_n 0, 1) := by decide +kernel
theorem dX5_init_5 : decode cX5_init 5 = .ok (.new 7, 3) := by decide +kernel
theorem dX5_init_8 : decode cX5_init 8 = .ok (.dup, 1) := by decide +kernel
theorem dX5_init_9 : decode cX5_init 9 = .ok (.invokespecial 9, 3) := by decide +kernel
theorem dX5_init_12 : decode cX5_init 12 = .ok (.putfield 10, 3) := by decide +kernel
theorem dX5_init_15 : decode cX5_init 15 = .ok (.aload_n 0, 1) := by decide +kernel
theorem dX5_init_16 : decode cX5_init 16 = .ok (.new 16, 3) := by decide +kernel
theorem dX5_init_19 : decode cX5_init 19 = .ok (.dup, 1) := by decide +kernel
theorem dX5_init_20 : decode cX5_init 20 = .ok (.invokespecial 18, 3) := by decide +kernel
theorem dX5_init_23 : decode cX5_init 23 = .ok (.putfield 19, 3) := by decide +kernel
theorem dX5_init_26 : decode cX5_init 26 = .ok (.aload_n 0, 1) := by decide +kernel
theorem dX5_init_27 : decode cX5_init 27 = .ok (.new 23, 3) := by decide +kernel
theorem dX5_init_30 : decode cX5_init 30 = .ok (.dup, 1) := by decide +kernel
theorem dX5_init_31 : decode cX5_init 31 = .ok (.invokespecial 25, 3) := by decide +kernel
theorem dX5_init_34 : decode cX5_init 34 = .ok (.putfield 26, 3) := by decide +kernel
theorem dX5_init_37 : decode cX5_init 37 = .ok (.aload_n 0, 1) := by decide +kernel
theorem dX5_init_38 : decode cX5_init 38 = .ok (.new 30, 3) := by decide +kernel
theorem dX5_init_41 : decode cX5_init 41 = .ok (.dup, 1) := by decide +kernel
theorem dX5_init_42 : decode cX5_init 42 = .ok (.invokespecial 32, 3) := by decide +kernel
theorem dX5_init_45 : decode cX5_init 45 = .ok (.putfield 33, 3) := by decide +kernel
theorem dX5_init_48 : decode cX5_init 48 = .ok (.aload_n 0, 1) := by decide +kernel
theorem dX5_init_49 : decode cX5_init 49 = .ok (.new 37, 3) := by decide +kernel
theorem dX5_init_52 : decode cX5_init 52 = .ok (.dup, 1) := by decide +kernel
theorem dX5_init_53 : decode cX5_init 53 = .ok (.invokespecial 39, 3) := by decide +kernel
theorem dX5_init_56 : decode cX5_init 56 = .ok (.putfield 40, 3) := by decide +kernel
theorem dX5_init_59 : decode cX5_init 59 = .ok (.aload_n 0, 1) := by decide +kernel
theorem dX5_init_60 : decode cX5_init 60 = .ok (.bipush 83, 2) := by decide +kernel
theorem dX5_init_62 : decode cX5_init 62 = .ok (.newarray .int, 2) := by decide +kernel
theorem dX5_init_64 : decode cX5_init 64 = .ok (.putfield 44, 3) := by decide +kernel
theorem dX5_init_67 : decode cX5_init 67 = .ok (.aload_n 0, 1) := by decide +kernel
theorem dX5_init_68 : decode cX5_init 68 = .ok (.getfield 10, 3) := by decide +kernel
theorem dX5_init_71 : decode cX5_init 71 = .ok (.iconst 3, 1) := by decide +kernel
theorem dX5_init_72 : decode cX5_init 72 = .ok (.iconst 0, 1) := by decide +kernel
theorem dX5_init_73 : decode cX5_init 73 = .ok (.invokevirtual 48, 3) := by decide +kernel
theorem dX5_init_76 : decode cX5_init 76 = .ok (.return_, 1) := by decide +kernel
set_option maxRecDepth 20000 in
theorem ggX5_told_X3_heads : GoodIn wsX5_told wsX3_heads := goodIn_r _ [14, 15, 16, 90, 91, 92, 93, 94, 95, 96, 97, 98, 99, 100, 101, 102, 103, 104] (by decide +kernel) (by decide +kernel)
set_option maxRecDepth 20000 in
theorem gX5_told_X3_heads : GoodIn wsX5_told (wsV RX5 56 RX3 yX3_heads wsX3_heads) := goodIn_app (goodIn_of _ (by decide +kernel)) ggX5_told_X3_heads
set_option maxRecDepth 20000 in
theorem ggX5_told_X3_called : GoodIn wsX5_told wsX3_called := goodIn_r _ [20, 16, 21, 90, 91, 92, 93, 94, 95, 96, 97, 98, 99, 100, 101, 102, 103, 104] (by decide +kernel) (by decide +kernel)
set_option maxRecDepth 20000 in
theorem gX5_told_X3_called : GoodIn wsX5_told (wsV RX5 67 RX3 yX3_called wsX3_called) := goodIn_app (goodIn_of _ (by decide +kernel)) ggX5_told_X3_called
set_option maxRecDepth 20000 in
theorem ggX5_told_X3_wronglyClear : GoodIn wsX5_told wsX3_wronglyClear := goodIn_r _ [25, 26, 18, 19, 13, 20, 16, 21, 27, 28, 29, 30, 31, 90, 91, 92, 93, 94, 95, 96, 97, 98, 99, 100, 101, 102, 103, 104] (by decide +kernel) (by decide +kernel)
set_option maxRecDepth 20000 in
theorem gX5_told_X3_wronglyClear : GoodIn wsX5_told (wsV RX5 71 RX3 yX3_wronglyClear wsX3_wronglyClear) := goodIn_app (goodIn_of _ (by decide +kernel)) ggX5_told_X3_wronglyClear
set_option maxRecDepth 20000 in
theorem ggX5_told_X3_idle : GoodIn wsX5_told wsX3_idle := goodIn_r _ [35, 27, 28, 29, 13, 30, 16, 31, 26, 18, 19, 20, 21, 90, 91, 92, 93, 94, 95, 96, 97, 98, 99, 100, 101, 102, 103, 104] (by decide +kernel) (by decide +kernel)
set_option maxRecDepth 20000 in
theorem gX5_told_X3_idle : GoodIn wsX5_told (wsV RX5 74 RX3 yX3_idle wsX3_idle) := goodIn_app (goodIn_of _ (by decide +kernel)) ggX5_told_X3_idle
set_option maxRecDepth 20000 in
theorem ggX5_told_X3_faultyHeads : GoodIn wsX5_told wsX3_faultyHeads := goodIn_r _ [39, 40, 41, 11, 12, 13, 14, 15, 16, 90, 91, 92, 93, 94, 95, 96, 97, 98, 99, 100, 101, 102, 103, 104] (by decide +kernel) (by decide +kernel)
set_option maxRecDepth 20000 in
theorem gX5_told_X3_faultyHeads : GoodIn wsX5_told (wsV RX5 77 RX3 yX3_faultyHeads wsX3_faultyHeads) := goodIn_app (goodIn_of _ (by decide +kernel)) ggX5_told_X3_faultyHeads
set_option maxRecDepth 20000 in
theorem ggX5_told_X3_suspects : GoodIn wsX5_told wsX3_suspects := goodIn_r _ [45, 41, 11, 12, 13, 14, 15, 16, 46, 47, 48, 49, 50, 51, 52, 53, 54, 55, 56, 57, 58, 59, 60, 61, 62, 90, 91, 92, 93, 94, 95, 96, 97, 98, 99, 100, 101, 102, 103, 104] (by decide +kernel) (by decide +kernel)
set_option maxRecDepth 20000 in
theorem gX5_told_X3_suspects : GoodIn wsX5_told (wsV RX5 80 RX3 yX3_suspects wsX3_suspects) := goodIn_app (goodIn_of _ (by decide +kernel)) ggX5_told_X3_suspects
set_option maxRecDepth 20000 in
theorem ggX5_told_X3_axlesInAll : GoodIn wsX5_told wsX3_axlesInAll := goodIn_r _ [66, 16, 31, 90, 91, 92, 93, 94, 95, 96, 97, 98, 99, 100, 101, 102, 103, 104] (by decide +kernel) (by decide +kernel)
set_option maxRecDepth 20000 in
theorem gX5_told_X3_axlesInAll : GoodIn wsX5_told (wsV RX5 83 RX3 yX3_axlesInAll wsX3_axlesInAll) := goodIn_app (goodIn_of _ (by decide +kernel)) ggX5_told_X3_axlesInAll
set_option maxRecDepth 20000 in
theorem ggX5_told_X3_sumOfAll : GoodIn wsX5_told wsX3_sumOfAll := goodIn_r _ [70, 16, 54, 90, 91, 92, 93, 94, 95, 96, 97, 98, 99, 100, 101, 102, 103, 104] (by decide +kernel) (by decide +kernel)
set_option maxRecDepth 20000 in
theorem gX5_told_X3_sumOfAll : GoodIn wsX5_told (wsV RX5 86 RX3 yX3_sumOfAll wsX3_sumOfAll) := goodIn_app (goodIn_of _ (by decide +kernel)) ggX5_told_X3_sumOfAll
set_option maxRecDepth 20000 in
theorem ggX5_told_X0_firstWrong : GoodIn wsX5_told wsX0_firstWrong := goodIn_r _ [75, 76, 77, 78, 79, 80, 81, 82, 13, 83, 16, 105, 106, 107, 90, 91, 92, 93, 94, 95, 96, 97, 98, 99, 100, 101, 102, 103, 104] (by decide +kernel) (by decide +kernel)
set_option maxRecDepth 20000 in
theorem gX5_told_X0_firstWrong : GoodIn wsX5_told (wsV RX5 92 RX0 yX0_firstWrong wsX0_firstWrong) := goodIn_app (goodIn_of _ (by decide +kernel)) ggX5_told_X0_firstWrong
theorem dX5_told_0 : decode cX5_told 0 = .ok (.iload_n 1, 1) := by decide +kernel
theorem dX5_told_1 : decode cX5_told 1 = .ok (.tableswitch 239 0 16 #[83, 91, 99, 115, 123, 132, 141, 150, 159, 167, 175, 183, 191, 199, 211, 219, 231], 83) := by decide +kernel
theorem dX5_told_84 : decode cX5_told 84 = .ok (.aload_n 0, 1) := by decide +kernel
theorem dX5_told_85 : decode cX5_told 85 = .ok (.getfield 10, 3) := by decide +kernel
theorem dX5_told_88 : decode cX5_told 88 = .ok (.getfield 52, 3) := by decide +kernel
theorem dX5_told_91 : decode cX5_told 91 = .ok (.ireturn, 1) := by decide +kernel
theorem dX5_told_92 : decode cX5_told 92 = .ok (.aload_n 0, 1) := by decide +kernel
theorem dX5_told_93 : decode cX5_told 93 = .ok (.getfield 10, 3) := by decide +kernel
theorem dX5_told_96 : decode cX5_told 96 = .ok (.invokevirtual 56, 3) := by decide +kernel
theorem dX5_told_99 : decode cX5_told 99 = .ok (.ireturn, 1) := by decide +kernel
theorem dX5_told_100 : decode cX5_told 100 = .ok (.aload_n 0, 1) := by decide +kernel
theorem dX5_told_101 : decode cX5_told 101 = .ok (.getfield 10, 3) := by decide +kernel
theorem dX5_told_104 : decode cX5_told 104 = .ok (.getfield 60, 3) := by decide +kernel
theorem dX5_told_107 : decode cX5_told 107 = .ok (.ifCond .eq 7, 3) := by decide +kernel
theorem dX5_told_110 : decode cX5_told 110 = .ok (.iconst 1, 1) := by decide +kernel
theorem dX5_told_111 : decode cX5_told 111 = .ok (.goto 4, 3) := by decide +kernel
theorem dX5_told_114 : decode cX5_told 114 = .ok (.iconst 0, 1) := by decide +kernel
theorem dX5_told_115 : decode cX5_told 115 = .ok (.ireturn, 1) := by decide +kernel
theorem dX5_told_116 : decode cX5_told 116 = .ok (.aload_n 0, 1) := by decide +kernel
theorem dX5_told_117 : decode cX5_told 117 = .ok (.getfield 10, 3) := by decide +kernel
theorem dX5_told_120 : decode cX5_told 120 = .ok (.getfield 64, 3) := by decide +kernel
theorem dX5_told_123 : decode cX5_told 123 = .ok (.ireturn, 1) := by decide +kernel
theorem dX5_told_124 : decode cX5_told 124 = .ok (.aload_n 0, 1) := by decide +kernel
theorem dX5_told_125 : decode cX5_told 125 = .ok (.getfield 10, 3) := by decide +kernel
theorem dX5_told_128 : decode cX5_told 128 = .ok (.iconst 0, 1) := by decide +kernel
theorem dX5_told_129 : decode cX5_told 129 = .ok (.invokevirtual 67, 3) := by decide +kernel
theorem dX5_told_132 : decode cX5_told 132 = .ok (.ireturn, 1) := by decide +kernel
theorem dX5_told_133 : decode cX5_told 133 = .ok (.aload_n 0, 1) := by decide +kernel
theorem dX5_told_134 : decode cX5_told 134 = .ok (.getfield 10, 3) := by decide +kernel
theorem dX5_told_137 : decode cX5_told 137 = .ok (.iconst 1, 1) := by decide +kernel
theorem dX5_told_138 : decode cX5_told 138 = .ok (.invokevirtual 67, 3) := by decide +kernel
theorem dX5_told_141 : decode cX5_told 141 = .ok (.ireturn, 1) := by decide +kernel
theorem dX5_told_142 : decode cX5_told 142 = .ok (.aload_n 0, 1) := by decide +kernel
theorem dX5_told_143 : decode cX5_told 143 = .ok (.getfield 10, 3) := by decide +kernel
theorem dX5_told_146 : decode cX5_told 146 = .ok (.iconst 2, 1) := by decide +kernel
theorem dX5_told_147 : decode cX5_told 147 = .ok (.invokevirtual 67, 3) := by decide +kernel
theorem dX5_told_150 : decode cX5_told 150 = .ok (.ireturn, 1) := by decide +kernel
theorem dX5_told_151 : decode cX5_told 151 = .ok (.aload_n 0, 1) := by decide +kernel
theorem dX5_told_152 : decode cX5_told 152 = .ok (.getfield 10, 3) := by decide +kernel
theorem dX5_told_155 : decode cX5_told 155 = .ok (.iconst 3, 1) := by decide +kernel
theorem dX5_told_156 : decode cX5_told 156 = .ok (.invokevirtual 67, 3) := by decide +kernel
theorem dX5_told_159 : decode cX5_told 159 = .ok (.ireturn, 1) := by decide +kernel
theorem dX5_told_160 : decode cX5_told 160 = .ok (.aload_n 0, 1) := by decide +kernel
theorem dX5_told_161 : decode cX5_told 161 = .ok (.getfield 10, 3) := by decide +kernel
theorem dX5_told_164 : decode cX5_told 164 = .ok (.invokevirtual 71, 3) := by decide +kernel
theorem dX5_told_167 : decode cX5_told 167 = .ok (.ireturn, 1) := by decide +kernel
theorem dX5_told_168 : decode cX5_told 168 = .ok (.aload_n 0, 1) := by decide +kernel
theorem dX5_told_169 : decode cX5_told 169 = .ok (.getfield 10, 3) := by decide +kernel
theorem dX5_told_172 : decode cX5_told 172 = .ok (.invokevirtual 74, 3) := by decide +kernel
theorem dX5_told_175 : decode cX5_told 175 = .ok (.ireturn, 1) := by decide +kernel
theorem dX5_told_176 : decode cX5_told 176 = .ok (.aload_n 0, 1) := by decide +kernel
theorem dX5_told_177 : decode cX5_told 177 = .ok (.getfield 10, 3) := by decide +kernel
theorem dX5_told_180 : decode cX5_told 180 = .ok (.invokevirtual 77, 3) := by decide +kernel
theorem dX5_told_183 : decode cX5_told 183 = .ok (.ireturn, 1) := by decide +kernel
theorem dX5_told_184 : decode cX5_told 184 = .ok (.aload_n 0, 1) := by decide +kernel
theorem dX5_told_185 : decode cX5_told 185 = .ok (.getfield 10, 3) := by decide +kernel
theorem dX5_told_188 : decode cX5_told 188 = .ok (.invokevirtual 80, 3) := by decide +kernel
theorem dX5_told_191 : decode cX5_told 191 = .ok (.ireturn, 1) := by decide +kernel
theorem dX5_told_192 : decode cX5_told 192 = .ok (.aload_n 0, 1) := by decide +kernel
theorem dX5_told_193 : decode cX5_told 193 = .ok (.getfield 10, 3) := by decide +kernel
theorem dX5_told_196 : decode cX5_told 196 = .ok (.invokevirtual 83, 3) := by decide +kernel
theorem dX5_told_199 : decode cX5_told 199 = .ok (.ireturn, 1) := by decide +kernel
theorem dX5_told_200 : decode cX5_told 200 = .ok (.aload_n 0, 1) := by decide +kernel
theorem dX5_told_201 : decode cX5_told 201 = .ok (.getfield 10, 3) := by decide +kernel
theorem dX5_told_204 : decode cX5_told 204 = .ok (.invokevirtual 86, 3) := by decide +kernel
theorem dX5_told_207 : decode cX5_told 207 = .ok (.sipush 1000, 3) := by decide +kernel
theorem dX5_told_210 : decode cX5_told 210 = .ok (.iadd, 1) := by decide +kernel
theorem dX5_told_211 : decode cX5_told 211 = .ok (.ireturn, 1) := by decide +kernel
theorem dX5_told_212 : decode cX5_told 212 = .ok (.aload_n 0, 1) := by decide +kernel
theorem dX5_told_213 : decode cX5_told 213 = .ok (.getfield 26, 3) := by decide +kernel
theorem dX5_told_216 : decode cX5_told 216 = .ok (.getfield 89, 3) := by decide +kernel
theorem dX5_told_219 : decode cX5_told 219 = .ok (.ireturn, 1) := by decide +kernel
theorem dX5_told_220 : decode cX5_told 220 = .ok (.aload_n 0, 1) := by decide +kernel
theorem dX5_told_221 : decode cX5_told 221 = .ok (.getfield 26, 3) := by decide +kernel
theorem dX5_told_224 : decode cX5_told 224 = .ok (.aload_n 0, 1) := by decide +kernel
theorem dX5_told_225 : decode cX5_told 225 = .ok (.getfield 10, 3) := by decide +kernel
theorem dX5_told_228 : decode cX5_told 228 = .ok (.invokevirtual 92, 3) := by decide +kernel
theorem dX5_told_231 : decode cX5_told 231 = .ok (.ireturn, 1) := by decide +kernel
theorem dX5_told_232 : decode cX5_told 232 = .ok (.aload_n 0, 1) := by decide +kernel
theorem dX5_told_233 : decode cX5_told 233 = .ok (.getfield 19, 3) := by decide +kernel
theorem dX5_told_236 : decode cX5_told 236 = .ok (.getfield 96, 3) := by decide +kernel
theorem dX5_told_239 : decode cX5_told 239 = .ok (.ireturn, 1) := by decide +kernel
theorem dX5_told_240 : decode cX5_told 240 = .ok (.ldc 97, 2) := by decide +kernel
theorem dX5_told_242 : decode cX5_told 242 = .ok (.ireturn, 1) := by decide +kernel
set_option maxRecDepth 20000 in
theorem ggX5_section_X3_hasSection : GoodIn wsX5_section wsX3_hasSection := goodIn_r _ [12, 13, 54, 55, 56, 57, 58, 59, 60, 61, 62, 63, 64, 65, 66, 67, 68] (by decide +kernel) (by decide +kernel)
set_option maxRecDepth 20000 in
theorem gX5_section_X3_hasSection : GoodIn wsX5_section (wsV RX5 98 RX3 yX3_hasSection wsX3_hasSection) := goodIn_app (goodIn_of _ (by decide +kernel)) ggX5_section_X3_hasSection
set_option maxRecDepth 20000 in
theorem ggX5_section_X3_hasTrouble : GoodIn wsX5_section wsX3_hasTrouble := goodIn_r _ [17, 18, 19, 20, 21, 11, 22, 23, 24, 25, 26, 27, 28, 29, 30, 31, 32, 33, 13, 54, 55, 56, 57, 58, 59, 60, 61, 62, 63, 64, 65, 66, 67, 68] (by decide +kernel) (by decide +kernel)
set_option maxRecDepth 20000 in
theorem gX5_section_X3_hasTrouble : GoodIn wsX5_section (wsV RX5 112 RX3 yX3_hasTrouble wsX3_hasTrouble) := goodIn_app (goodIn_of _ (by decide +kernel)) ggX5_section_X3_hasTrouble
set_option maxRecDepth 20000 in
theorem ggX5_section_X3_lossesLeft : GoodIn wsX5_section wsX3_lossesLeft := goodIn_r _ [37, 28, 38, 39, 40, 41, 29, 30, 31, 11, 32, 33, 13, 54, 55, 56, 57, 58, 59, 60, 61, 62, 63, 64, 65, 66, 67, 68] (by decide +kernel) (by decide +kernel)
set_option maxRecDepth 20000 in
theorem gX5_section_X3_lossesLeft : GoodIn wsX5_section (wsV RX5 118 RX3 yX3_lossesLeft wsX3_lossesLeft) := goodIn_app (goodIn_of _ (by decide +kernel)) ggX5_section_X3_lossesLeft
set_option maxRecDepth 20000 in
theorem ggX5_section_X3_clearRun : GoodIn wsX5_section wsX3_clearRun := goodIn_r _ [45, 13, 46, 33, 47, 9, 10, 11, 12, 54, 55, 56, 57, 58, 59, 60, 61, 62, 63, 64, 65, 66, 67, 68] (by decide +kernel) (by decide +kernel)
set_option maxRecDepth 20000 in
theorem gX5_section_X3_clearRun : GoodIn wsX5_section (wsV RX5 121 RX3 yX3_clearRun wsX3_clearRun) := goodIn_app (goodIn_of _ (by decide +kernel)) ggX5_section_X3_clearRun
theorem dX5_section_0 : decode cX5_section 0 = .ok (.aload_n 0, 1) := by decide +kernel
theorem dX5_section_1 : decode cX5_section 1 = .ok (.getfield 10, 3) := by decide +kernel
theorem dX5_section_4 : decode cX5_section 4 = .ok (.iload_n 1, 1) := by decide +kernel
theorem dX5_section_5 : decode cX5_section 5 = .ok (.invokevirtual 98, 3) := by decide +kernel
theorem dX5_section_8 : decode cX5_section 8 = .ok (.ifCond .ne 6, 3) := by decide +kernel
theorem dX5_section_11 : decode cX5_section 11 = .ok (.ldc 102, 2) := by decide +kernel
theorem dX5_section_13 : decode cX5_section 13 = .ok (.ireturn, 1) := by decide +kernel
theorem dX5_section_14 : decode cX5_section 14 = .ok (.iload_n 2, 1) := by decide +kernel
theorem dX5_section_15 : decode cX5_section 15 = .ok (.tableswitch 137 0 6 #[41, 51, 65, 75, 92, 119, 128], 41) := by decide +kernel
theorem dX5_section_56 : decode cX5_section 56 = .ok (.aload_n 0, 1) := by decide +kernel
theorem dX5_section_57 : decode cX5_section 57 = .ok (.getfield 10, 3) := by decide +kernel
theorem dX5_section_60 : decode cX5_section 60 = .ok (.getfield 103, 3) := by decide +kernel
theorem dX5_section_63 : decode cX5_section 63 = .ok (.iload_n 1, 1) := by decide +kernel
theorem dX5_section_64 : decode cX5_section 64 = .ok (.iaload, 1) := by decide +kernel
theorem dX5_section_65 : decode cX5_section 65 = .ok (.ireturn, 1) := by decide +kernel
theorem dX5_section_66 : decode cX5_section 66 = .ok (.aload_n 0, 1) := by decide +kernel
theorem dX5_section_67 : decode cX5_section 67 = .ok (.getfield 10, 3) := by decide +kernel
theorem dX5_section_70 : decode cX5_section 70 = .ok (.getfield 106, 3) := by decide +kernel
theorem dX5_section_73 : decode cX5_section 73 = .ok (.iload_n 1, 1) := by decide +kernel
theorem dX5_section_74 : decode cX5_section 74 = .ok (.iaload, 1) := by decide +kernel
theorem dX5_section_75 : decode cX5_section 75 = .ok (.sipush 1000, 3) := by decide +kernel
theorem dX5_section_78 : decode cX5_section 78 = .ok (.iadd, 1) := by decide +kernel
theorem dX5_section_79 : decode cX5_section 79 = .ok (.ireturn, 1) := by decide +kernel
theorem dX5_section_80 : decode cX5_section 80 = .ok (.aload_n 0, 1) := by decide +kernel
theorem dX5_section_81 : decode cX5_section 81 = .ok (.getfield 10, 3) := by decide +kernel
theorem dX5_section_84 : decode cX5_section 84 = .ok (.getfield 109, 3) := by decide +kernel
theorem dX5_section_87 : decode cX5_section 87 = .ok (.iload_n 1, 1) := by decide +kernel
theorem dX5_section_88 : decode cX5_section 88 = .ok (.iaload, 1) := by decide +kernel
theorem dX5_section_89 : decode cX5_section 89 = .ok (.ireturn, 1) := by decide +kernel
theorem dX5_section_90 : decode cX5_section 90 = .ok (.aload_n 0, 1) := by decide +kernel
theorem dX5_section_91 : decode cX5_section 91 = .ok (.getfield 10, 3) := by decide +kernel
theorem dX5_section_94 : decode cX5_section 94 = .ok (.iload_n 1, 1) := by decide +kernel
theorem dX5_section_95 : decode cX5_section 95 = .ok (.invokevirtual 112, 3) := by decide +kernel
theorem dX5_section_98 : decode cX5_section 98 = .ok (.ifCond .eq 7, 3) := by decide +kernel
theorem dX5_section_101 : decode cX5_section 101 = .ok (.iconst 1, 1) := by decide +kernel
theorem dX5_section_102 : decode cX5_section 102 = .ok (.goto 4, 3) := by decide +kernel
theorem dX5_section_105 : decode cX5_section 105 = .ok (.iconst 0, 1) := by decide +kernel
theorem dX5_section_106 : decode cX5_section 106 = .ok (.ireturn, 1) := by decide +kernel
theorem dX5_section_107 : decode cX5_section 107 = .ok (.aload_n 0, 1) := by decide +kernel
theorem dX5_section_108 : decode cX5_section 108 = .ok (.getfield 10, 3) := by decide +kernel
theorem dX5_section_111 : decode cX5_section 111 = .ok (.getfield 103, 3) := by decide +kernel
theorem dX5_section_114 : decode cX5_section 114 = .ok (.iload_n 1, 1) := by decide +kernel
theorem dX5_section_115 : decode cX5_section 115 = .ok (.iaload, 1) := by decide +kernel
theorem dX5_section_116 : decode cX5_section 116 = .ok (.iconst 3, 1) := by decide +kernel
theorem dX5_section_117 : decode cX5_section 117 = .ok (.if_icmp .ne 15, 3) := by decide +kernel
theorem dX5_section_120 : decode cX5_section 120 = .ok (.aload_n 0, 1) := by decide +kernel
theorem dX5_section_121 : decode cX5_section 121 = .ok (.getfield 10, 3) := by decide +kernel
theorem dX5_section_124 : decode cX5_section 124 = .ok (.getfield 115, 3) := by decide +kernel
theorem dX5_section_127 : decode cX5_section 127 = .ok (.iload_n 1, 1) := by decide +kernel
theorem dX5_section_128 : decode cX5_section 128 = .ok (.iaload, 1) := by decide +kernel
theorem dX5_section_129 : decode cX5_section 129 = .ok (.goto 4, 3) := by decide +kernel
theorem dX5_section_132 : decode cX5_section 132 = .ok (.iconst 0, 1) := by decide +kernel
theorem dX5_section_133 : decode cX5_section 133 = .ok (.ireturn, 1) := by decide +kernel
theorem dX5_section_134 : decode cX5_section 134 = .ok (.aload_n 0, 1) := by decide +kernel
theorem dX5_section_135 : decode cX5_section 135 = .ok (.getfield 10, 3) := by decide +kernel
theorem dX5_section_138 : decode cX5_section 138 = .ok (.iload_n 1, 1) := by decide +kernel
theorem dX5_section_139 : decode cX5_section 139 = .ok (.invokevirtual 118, 3) := by decide +kernel
theorem dX5_section_142 : decode cX5_section 142 = .ok (.ireturn, 1) := by decide +kernel
theorem dX5_section_143 : decode cX5_section 143 = .ok (.aload_n 0, 1) := by decide +kernel
theorem dX5_section_144 : decode cX5_section 144 = .ok (.getfield 10, 3) := by decide +kernel
theorem dX5_section_147 : decode cX5_section 147 = .ok (.iload_n 1, 1) := by decide +kernel
theorem dX5_section_148 : decode cX5_section 148 = .ok (.invokevirtual 121, 3) := by decide +kernel
theorem dX5_section_151 : decode cX5_section 151 = .ok (.ireturn, 1) := by decide +kernel
theorem dX5_section_152 : decode cX5_section 152 = .ok (.ldc 97, 2) := by decide +kernel
theorem dX5_section_154 : decode cX5_section 154 = .ok (.ireturn, 1) := by decide +kernel
set_option maxRecDepth 20000 in
theorem ggX5_head_X3_hasHead : GoodIn wsX5_head wsX3_hasHead := goodIn_r _ [16, 17, 18, 19, 15, 20, 21, 22, 62, 63, 64, 65, 66, 67, 68, 69, 70, 71, 72, 73, 74, 75, 76] (by decide +kernel) (by decide +kernel)
set_option maxRecDepth 20000 in
theorem gX5_head_X3_hasHead : GoodIn wsX5_head (wsV RX5 124 RX3 yX3_hasHead wsX3_hasHead) := goodIn_app (goodIn_of _ (by decide +kernel)) ggX5_head_X3_hasHead
set_option maxRecDepth 20000 in
theorem ggX5_head_X3_joins : GoodIn wsX5_head wsX3_joins := goodIn_r _ [26, 27, 28, 29, 15, 30, 21, 22, 31, 32, 33, 34, 35, 36, 37, 38, 62, 63, 64, 65, 66, 67, 68, 69, 70, 71, 72, 73, 74, 75, 76] (by decide +kernel) (by decide +kernel)
set_option maxRecDepth 20000 in
theorem gX5_head_X3_joins : GoodIn wsX5_head (wsV RX5 151 RX3 yX3_joins wsX3_joins) := goodIn_app (goodIn_of _ (by decide +kernel)) ggX5_head_X3_joins
set_option maxRecDepth 20000 in
theorem ggX5_head_X3_joint : GoodIn wsX5_head wsX3_joint := goodIn_r _ [42, 43, 27, 28, 29, 15, 30, 21, 22, 31, 32, 33, 34, 35, 36, 37, 38, 62, 63, 64, 65, 66, 67, 68, 69, 70, 71, 72, 73, 74, 75, 76] (by decide +kernel) (by decide +kernel)
set_option maxRecDepth 20000 in
theorem gX5_head_X3_joint : GoodIn wsX5_head (wsV RX5 154 RX3 yX3_joint wsX3_joint) := goodIn_app (goodIn_of _ (by decide +kernel)) ggX5_head_X3_joint
set_option maxRecDepth 20000 in
theorem ggX5_head_X3_miscount : GoodIn wsX5_head wsX3_miscount := goodIn_r _ [47, 48, 49, 50, 15, 51, 22, 43, 31, 32, 33, 34, 27, 28, 29, 30, 21, 62, 63, 64, 65, 66, 67, 68, 69, 70, 71, 72, 73, 74, 75, 76] (by decide +kernel) (by decide +kernel)
set_option maxRecDepth 20000 in
theorem gX5_head_X3_miscount : GoodIn wsX5_head (wsV RX5 157 RX3 yX3_miscount wsX3_miscount) := goodIn_app (goodIn_of _ (by decide +kernel)) ggX5_head_X3_miscount
set_option maxRecDepth 20000 in
theorem ggX5_head_X5_miscountTold : GoodIn wsX5_head wsX5_miscountTold := goodIn_r _ [55] (by decide +kernel) (by decide +kernel)
set_option maxRecDepth 20000 in
theorem gX5_head_X5_miscountTold : GoodIn wsX5_head (va_wsS RX5 160 yX5_miscountTold wsX5_miscountTold) := goodIn_app (goodIn_of _ (by decide +kernel)) ggX5_head_X5_miscountTold
theorem dX5_head_0 : decode cX5_head 0 = .ok (.aload_n 0, 1) := by decide +kernel
theorem dX5_head_1 : decode cX5_head 1 = .ok (.getfield 10, 3) := by decide +kernel
theorem dX5_head_4 : decode cX5_head 4 = .ok (.iload_n 1, 1) := by decide +kernel
theorem dX5_head_5 : decode cX5_head 5 = .ok (.invokevirtual 124, 3) := by decide +kernel
theorem dX5_head_8 : decode cX5_head 8 = .ok (.ifCond .ne 6, 3) := by decide +kernel
theorem dX5_head_11 : decode cX5_head 11 = .ok (.ldc 102, 2) := by decide +kernel
theorem dX5_head_13 : decode cX5_head 13 = .ok (.ireturn, 1) := by decide +kernel
theorem dX5_head_14 : decode cX5_head 14 = .ok (.iload_n 2, 1) := by decide +kernel
theorem dX5_head_15 : decode cX5_head 15 = .ok (.tableswitch 179 0 9 #[53, 63, 75, 89, 99, 109, 119, 129, 139, 167], 53) := by decide +kernel
theorem dX5_head_68 : decode cX5_head 68 = .ok (.aload_n 0, 1) := by decide +kernel
theorem dX5_head_69 : decode cX5_head 69 = .ok (.getfield 10, 3) := by decide +kernel
theorem dX5_head_72 : decode cX5_head 72 = .ok (.getfield 127, 3) := by decide +kernel
theorem dX5_head_75 : decode cX5_head 75 = .ok (.iload_n 1, 1) := by decide +kernel
theorem dX5_head_76 : decode cX5_head 76 = .ok (.iaload, 1) := by decide +kernel
theorem dX5_head_77 : decode cX5_head 77 = .ok (.ireturn, 1) := by decide +kernel
theorem dX5_head_78 : decode cX5_head 78 = .ok (.aload_n 0, 1) := by decide +kernel
theorem dX5_head_79 : decode cX5_head 79 = .ok (.getfield 10, 3) := by decide +kernel
theorem dX5_head_82 : decode cX5_head 82 = .ok (.getfield 130, 3) := by decide +kernel
theorem dX5_head_85 : decode cX5_head 85 = .ok (.iload_n 1, 1) := by decide +kernel
theorem dX5_head_86 : decode cX5_head 86 = .ok (.iaload, 1) := by decide +kernel
theorem dX5_head_87 : decode cX5_head 87 = .ok (.iconst 4, 1) := by decide +kernel
theorem dX5_head_88 : decode cX5_head 88 = .ok (.iadd, 1) := by decide +kernel
theorem dX5_head_89 : decode cX5_head 89 = .ok (.ireturn, 1) := by decide +kernel
theorem dX5_head_90 : decode cX5_head 90 = .ok (.aload_n 0, 1) := by decide +kernel
theorem dX5_head_91 : decode cX5_head 91 = .ok (.getfield 10, 3) := by decide +kernel
theorem dX5_head_94 : decode cX5_head 94 = .ok (.getfield 133, 3) := by decide +kernel
theorem dX5_head_97 : decode cX5_head 97 = .ok (.iload_n 1, 1) := by decide +kernel
theorem dX5_head_98 : decode cX5_head 98 = .ok (.iaload, 1) := by decide +kernel
theorem dX5_head_99 : decode cX5_head 99 = .ok (.sipush 10000, 3) := by decide +kernel
theorem dX5_head_102 : decode cX5_head 102 = .ok (.iadd, 1) := by decide +kernel
theorem dX5_head_103 : decode cX5_head 103 = .ok (.ireturn, 1) := by decide +kernel
theorem dX5_head_104 : decode cX5_head 104 = .ok (.aload_n 0, 1) := by decide +kernel
theorem dX5_head_105 : decode cX5_head 105 = .ok (.getfield 10, 3) := by decide +kernel
theorem dX5_head_108 : decode cX5_head 108 = .ok (.getfield 136, 3) := by decide +kernel
theorem dX5_head_111 : decode cX5_head 111 = .ok (.iload_n 1, 1) := by decide +kernel
theorem dX5_head_112 : decode cX5_head 112 = .ok (.iaload, 1) := by decide +kernel
theorem dX5_head_113 : decode cX5_head 113 = .ok (.ireturn, 1) := by decide +kernel
theorem dX5_head_114 : decode cX5_head 114 = .ok (.aload_n 0, 1) := by decide +kernel
theorem dX5_head_115 : decode cX5_head 115 = .ok (.getfield 10, 3) := by decide +kernel
theorem dX5_head_118 : decode cX5_head 118 = .ok (.getfield 139, 3) := by decide +kernel
theorem dX5_head_121 : decode cX5_head 121 = .ok (.iload_n 1, 1) := by decide +kernel
theorem dX5_head_122 : decode cX5_head 122 = .ok (.iaload, 1) := by decide +kernel
theorem dX5_head_123 : decode cX5_head 123 = .ok (.ireturn, 1) := by decide +kernel
theorem dX5_head_124 : decode cX5_head 124 = .ok (.aload_n 0, 1) := by decide +kernel
theorem dX5_head_125 : decode cX5_head 125 = .ok (.getfield 10, 3) := by decide +kernel
theorem dX5_head_128 : decode cX5_head 128 = .ok (.getfield 142, 3) := by decide +kernel
theorem dX5_head_131 : decode cX5_head 131 = .ok (.iload_n 1, 1) := by decide +kernel
theorem dX5_head_132 : decode cX5_head 132 = .ok (.iaload, 1) := by decide +kernel
theorem dX5_head_133 : decode cX5_head 133 = .ok (.ireturn, 1) := by decide +kernel
theorem dX5_head_134 : decode cX5_head 134 = .ok (.aload_n 0, 1) := by decide +kernel
theorem dX5_head_135 : decode cX5_head 135 = .ok (.getfield 10, 3) := by decide +kernel
theorem dX5_head_138 : decode cX5_head 138 = .ok (.getfield 145, 3) := by decide +kernel
theorem dX5_head_141 : decode cX5_head 141 = .ok (.iload_n 1, 1) := by decide +kernel
theorem dX5_head_142 : decode cX5_head 142 = .ok (.iaload, 1) := by decide +kernel
theorem dX5_head_143 : decode cX5_head 143 = .ok (.ireturn, 1) := by decide +kernel
theorem dX5_head_144 : decode cX5_head 144 = .ok (.aload_n 0, 1) := by decide +kernel
theorem dX5_head_145 : decode cX5_head 145 = .ok (.getfield 10, 3) := by decide +kernel
theorem dX5_head_148 : decode cX5_head 148 = .ok (.getfield 148, 3) := by decide +kernel
theorem dX5_head_151 : decode cX5_head 151 = .ok (.iload_n 1, 1) := by decide +kernel
theorem dX5_head_152 : decode cX5_head 152 = .ok (.iaload, 1) := by decide +kernel
theorem dX5_head_153 : decode cX5_head 153 = .ok (.ireturn, 1) := by decide +kernel
theorem dX5_head_154 : decode cX5_head 154 = .ok (.aload_n 0, 1) := by decide +kernel
theorem dX5_head_155 : decode cX5_head 155 = .ok (.getfield 10, 3) := by decide +kernel
theorem dX5_head_158 : decode cX5_head 158 = .ok (.iload_n 1, 1) := by decide +kernel
theorem dX5_head_159 : decode cX5_head 159 = .ok (.invokevirtual 151, 3) := by decide +kernel
theorem dX5_head_162 : decode cX5_head 162 = .ok (.ifCond .eq 18, 3) := by decide +kernel
theorem dX5_head_165 : decode cX5_head 165 = .ok (.aload_n 0, 1) := by decide +kernel
theorem dX5_head_166 : decode cX5_head 166 = .ok (.getfield 10, 3) := by decide +kernel
theorem dX5_head_169 : decode cX5_head 169 = .ok (.iload_n 1, 1) := by decide +kernel
theorem dX5_head_170 : decode cX5_head 170 = .ok (.invokevirtual 154, 3) := by decide +kernel
theorem dX5_head_173 : decode cX5_head 173 = .ok (.sipush 2000, 3) := by decide +kernel
theorem dX5_head_176 : decode cX5_head 176 = .ok (.iadd, 1) := by decide +kernel
theorem dX5_head_177 : decode cX5_head 177 = .ok (.goto 4, 3) := by decide +kernel
theorem dX5_head_180 : decode cX5_head 180 = .ok (.iconst (-1), 1) := by decide +kernel
theorem dX5_head_181 : decode cX5_head 181 = .ok (.ireturn, 1) := by decide +kernel
theorem dX5_head_182 : decode cX5_head 182 = .ok (.aload_n 0, 1) := by decide +kernel
theorem dX5_head_183 : decode cX5_head 183 = .ok (.getfield 10, 3) := by decide +kernel
theorem dX5_head_186 : decode cX5_head 186 = .ok (.iload_n 1, 1) := by decide +kernel
theorem dX5_head_187 : decode cX5_head 187 = .ok (.invokevirtual 157, 3) := by decide +kernel
theorem dX5_head_190 : decode cX5_head 190 = .ok (.invokestatic 160, 3) := by decide +kernel
theorem dX5_head_193 : decode cX5_head 193 = .ok (.ireturn, 1) := by decide +kernel
theorem dX5_head_194 : decode cX5_head 194 = .ok (.ldc 97, 2) := by decide +kernel
theorem dX5_head_196 : decode cX5_head 196 = .ok (.ireturn, 1) := by decide +kernel
theorem dX5_miscountTold_0 : decode cX5_miscountTold 0 = .ok (.iload_n 0, 1) := by decide +kernel
theorem dX5_miscountTold_1 : decode cX5_miscountTold 1 = .ok (.ifCond .ne 7, 3) := by decide +kernel
theorem dX5_miscountTold_4 : decode cX5_miscountTold 4 = .ok (.iconst (-1), 1) := by decide +kernel
theorem dX5_miscountTold_5 : decode cX5_miscountTold 5 = .ok (.goto 7, 3) := by decide +kernel
theorem dX5_miscountTold_8 : decode cX5_miscountTold 8 = .ok (.iload_n 0, 1) := by decide +kernel
theorem dX5_miscountTold_9 : decode cX5_miscountTold 9 = .ok (.bipush 10, 2) := by decide +kernel
theorem dX5_miscountTold_11 : decode cX5_miscountTold 11 = .ok (.iadd, 1) := by decide +kernel
theorem dX5_miscountTold_12 : decode cX5_miscountTold 12 = .ok (.ireturn, 1) := by decide +kernel
set_option maxRecDepth 20000 in
theorem ggX5_line_X4_add : GoodIn wsX5_line wsX4_add := goodIn_r _ [10, 11, 12, 13, 14, 15, 16, 17, 18, 19, 20, 21, 22, 23, 24, 25, 26, 27, 28, 29, 30, 31, 32, 33, 34, 35, 36, 37, 38, 39, 40, 62, 63, 64, 65, 66, 67, 68, 69, 70, 71, 72, 73, 74, 75, 76, 77, 78, 79] (by decide +kernel) (by decide +kernel)
set_option maxRecDepth 20000 in
theorem gX5_line_X4_add : GoodIn wsX5_line (wsV RX5 163 RX4 yX4_add wsX4_add) := goodIn_app (goodIn_of _ (by decide +kernel)) ggX5_line_X4_add
set_option maxRecDepth 20000 in
theorem ggX5_line_X3_begin : GoodIn wsX5_line wsX3_begin := goodIn_r _ [44, 19, 20, 21, 22, 23, 24, 25, 26, 27, 28, 29, 30, 31, 32, 33, 45, 46, 47, 48, 65, 66, 67, 68, 69, 70, 71, 72, 73, 74, 75, 76, 77, 78, 79] (by decide +kernel) (by decide +kernel)
set_option maxRecDepth 20000 in
theorem gX5_line_X3_begin : GoodIn wsX5_line (wsV RX5 48 RX3 yX3_begin wsX3_begin) := goodIn_app (goodIn_of _ (by decide +kernel)) ggX5_line_X3_begin
set_option maxRecDepth 20000 in
theorem ggX5_line_X3_heads : GoodIn wsX5_line wsX3_heads := goodIn_r _ [52, 20, 19, 65, 66, 67, 68, 69, 70, 71, 72, 73, 74, 75, 76, 77, 78, 79] (by decide +kernel) (by decide +kernel)
set_option maxRecDepth 20000 in
theorem gX5_line_X3_heads : GoodIn wsX5_line (wsV RX5 56 RX3 yX3_heads wsX3_heads) := goodIn_app (goodIn_of _ (by decide +kernel)) ggX5_line_X3_heads
theorem dX5_line_0 : decode cX5_line 0 = .ok (.iload_n 1, 1) := by decide +kernel
theorem dX5_line_1 : decode cX5_line 1 = .ok (.iload_n 2, 1) := by decide +kernel
theorem dX5_line_2 : decode cX5_line 2 = .ok (.ifCond .eq 7, 3) := by decide +kernel
theorem dX5_line_5 : decode cX5_line 5 = .ok (.iconst 2, 1) := by decide +kernel
theorem dX5_line_6 : decode cX5_line 6 = .ok (.goto 4, 3) := by decide +kernel
theorem dX5_line_9 : decode cX5_line 9 = .ok (.iconst 1, 1) := by decide +kernel
theorem dX5_line_10 : decode cX5_line 10 = .ok (.if_icmp .lt 9, 3) := by decide +kernel
theorem dX5_line_13 : decode cX5_line 13 = .ok (.iload_n 1, 1) := by decide +kernel
theorem dX5_line_14 : decode cX5_line 14 = .ok (.bipush 6, 2) := by decide +kernel
theorem dX5_line_16 : decode cX5_line 16 = .ok (.if_icmp .le 6, 3) := by decide +kernel
theorem dX5_line_19 : decode cX5_line 19 = .ok (.ldc 97, 2) := by decide +kernel
theorem dX5_line_21 : decode cX5_line 21 = .ok (.ireturn, 1) := by decide +kernel
theorem dX5_line_22 : decode cX5_line 22 = .ok (.aload_n 0, 1) := by decide +kernel
theorem dX5_line_23 : decode cX5_line 23 = .ok (.getfield 19, 3) := by decide +kernel
theorem dX5_line_26 : decode cX5_line 26 = .ok (.aload_n 0, 1) := by decide +kernel
theorem dX5_line_27 : decode cX5_line 27 = .ok (.getfield 10, 3) := by decide +kernel
theorem dX5_line_30 : decode cX5_line 30 = .ok (.invokevirtual 163, 3) := by decide +kernel
theorem dX5_line_33 : decode cX5_line 33 = .ok (.aload_n 0, 1) := by decide +kernel
theorem dX5_line_34 : decode cX5_line 34 = .ok (.getfield 10, 3) := by decide +kernel
theorem dX5_line_37 : decode cX5_line 37 = .ok (.iload_n 1, 1) := by decide +kernel
theorem dX5_line_38 : decode cX5_line 38 = .ok (.iload_n 2, 1) := by decide +kernel
theorem dX5_line_39 : decode cX5_line 39 = .ok (.invokevirtual 48, 3) := by decide +kernel
theorem dX5_line_42 : decode cX5_line 42 = .ok (.aload_n 0, 1) := by decide +kernel
theorem dX5_line_43 : decode cX5_line 43 = .ok (.getfield 26, 3) := by decide +kernel
theorem dX5_line_46 : decode cX5_line 46 = .ok (.iconst 0, 1) := by decide +kernel
theorem dX5_line_47 : decode cX5_line 47 = .ok (.putfield 89, 3) := by decide +kernel
theorem dX5_line_50 : decode cX5_line 50 = .ok (.aload_n 0, 1) := by decide +kernel
theorem dX5_line_51 : decode cX5_line 51 = .ok (.getfield 10, 3) := by decide +kernel
theorem dX5_line_54 : decode cX5_line 54 = .ok (.invokevirtual 56, 3) := by decide +kernel
theorem dX5_line_57 : decode cX5_line 57 = .ok (.ireturn, 1) := by decide +kernel
set_option maxRecDepth 20000 in
theorem ggX5_feel_X3_hasHead : GoodIn wsX5_feel wsX3_hasHead := goodIn_r _ [12, 13, 14, 15, 11, 16, 17, 18, 66, 67, 68, 69, 70, 71, 72, 73, 74, 75, 76, 77, 78, 79, 80] (by decide +kernel) (by decide +kernel)
set_option maxRecDepth 20000 in
theorem gX5_feel_X3_hasHead : GoodIn wsX5_feel (wsV RX5 124 RX3 yX3_hasHead wsX3_hasHead) := goodIn_app (goodIn_of _ (by decide +kernel)) ggX5_feel_X3_hasHead
set_option maxRecDepth 20000 in
theorem ggX5_feel_X4_add : GoodIn wsX5_feel wsX4_add := goodIn_r _ [23, 24, 25, 26, 27, 28, 29, 11, 30, 18, 17, 31, 32, 33, 34, 35, 36, 37, 38, 39, 40, 41, 42, 43, 44, 45, 46, 47, 48, 49, 50, 81, 82, 83, 66, 67, 68, 69, 70, 71, 72, 73, 74, 75, 76, 77, 78, 79, 80] (by decide +kernel) (by decide +kernel)
set_option maxRecDepth 20000 in
theorem gX5_feel_X4_add : GoodIn wsX5_feel (wsV RX5 163 RX4 yX4_add wsX4_add) := goodIn_app (goodIn_of _ (by decide +kernel)) ggX5_feel_X4_add
set_option maxRecDepth 20000 in
theorem ggX5_feel_X3_stepTo : GoodIn wsX5_feel wsX3_stepTo := goodIn_r _ [54, 55, 32, 35, 33, 56, 57, 58, 11, 59, 34, 66, 67, 68, 69, 70, 71, 72, 73, 74, 75, 76, 77, 78, 79, 80] (by decide +kernel) (by decide +kernel)
set_option maxRecDepth 20000 in
theorem gX5_feel_X3_stepTo : GoodIn wsX5_feel (wsV RX5 168 RX3 yX3_stepTo wsX3_stepTo) := goodIn_app (goodIn_of _ (by decide +kernel)) ggX5_feel_X3_stepTo
theorem dX5_feel_0 : decode cX5_feel 0 = .ok (.aload_n 0, 1) := by decide +kernel
theorem dX5_feel_1 : decode cX5_feel 1 = .ok (.getfield 10, 3) := by decide +kernel
theorem dX5_feel_4 : decode cX5_feel 4 = .ok (.iload_n 1, 1) := by decide +kernel
theorem dX5_feel_5 : decode cX5_feel 5 = .ok (.invokevirtual 124, 3) := by decide +kernel
theorem dX5_feel_8 : decode cX5_feel 8 = .ok (.ifCond .ne 6, 3) := by decide +kernel
theorem dX5_feel_11 : decode cX5_feel 11 = .ok (.ldc 102, 2) := by decide +kernel
theorem dX5_feel_13 : decode cX5_feel 13 = .ok (.ireturn, 1) := by decide +kernel
theorem dX5_feel_14 : decode cX5_feel 14 = .ok (.iload_n 2, 1) := by decide +kernel
theorem dX5_feel_15 : decode cX5_feel 15 = .ok (.ifCond .lt 8, 3) := by decide +kernel
theorem dX5_feel_18 : decode cX5_feel 18 = .ok (.iload_n 2, 1) := by decide +kernel
theorem dX5_feel_19 : decode cX5_feel 19 = .ok (.iconst 3, 1) := by decide +kernel
theorem dX5_feel_20 : decode cX5_feel 20 = .ok (.if_icmp .le 6, 3) := by decide +kernel
theorem dX5_feel_23 : decode cX5_feel 23 = .ok (.ldc 97, 2) := by decide +kernel
theorem dX5_feel_25 : decode cX5_feel 25 = .ok (.ireturn, 1) := by decide +kernel
theorem dX5_feel_26 : decode cX5_feel 26 = .ok (.aload_n 0, 1) := by decide +kernel
theorem dX5_feel_27 : decode cX5_feel 27 = .ok (.getfield 10, 3) := by decide +kernel
theorem dX5_feel_30 : decode cX5_feel 30 = .ok (.getfield 142, 3) := by decide +kernel
theorem dX5_feel_33 : decode cX5_feel 33 = .ok (.iload_n 1, 1) := by decide +kernel
theorem dX5_feel_34 : decode cX5_feel 34 = .ok (.iaload, 1) := by decide +kernel
theorem dX5_feel_35 : decode cX5_feel 35 = .ok (.iconst 1, 1) := by decide +kernel
theorem dX5_feel_36 : decode cX5_feel 36 = .ok (.if_icmp .eq 16, 3) := by decide +kernel
theorem dX5_feel_39 : decode cX5_feel 39 = .ok (.aload_n 0, 1) := by decide +kernel
theorem dX5_feel_40 : decode cX5_feel 40 = .ok (.getfield 10, 3) := by decide +kernel
theorem dX5_feel_43 : decode cX5_feel 43 = .ok (.getfield 127, 3) := by decide +kernel
theorem dX5_feel_46 : decode cX5_feel 46 = .ok (.iload_n 1, 1) := by decide +kernel
theorem dX5_feel_47 : decode cX5_feel 47 = .ok (.iaload, 1) := by decide +kernel
theorem dX5_feel_48 : decode cX5_feel 48 = .ok (.iload_n 2, 1) := by decide +kernel
theorem dX5_feel_49 : decode cX5_feel 49 = .ok (.if_icmp .ne 6, 3) := by decide +kernel
theorem dX5_feel_52 : decode cX5_feel 52 = .ok (.ldc 167, 2) := by decide +kernel
theorem dX5_feel_54 : decode cX5_feel 54 = .ok (.ireturn, 1) := by decide +kernel
theorem dX5_feel_55 : decode cX5_feel 55 = .ok (.aload_n 0, 1) := by decide +kernel
theorem dX5_feel_56 : decode cX5_feel 56 = .ok (.getfield 19, 3) := by decide +kernel
theorem dX5_feel_59 : decode cX5_feel 59 = .ok (.aload_n 0, 1) := by decide +kernel
theorem dX5_feel_60 : decode cX5_feel 60 = .ok (.getfield 10, 3) := by decide +kernel
theorem dX5_feel_63 : decode cX5_feel 63 = .ok (.invokevirtual 163, 3) := by decide +kernel
theorem dX5_feel_66 : decode cX5_feel 66 = .ok (.aload_n 0, 1) := by decide +kernel
theorem dX5_feel_67 : decode cX5_feel 67 = .ok (.getfield 10, 3) := by decide +kernel
theorem dX5_feel_70 : decode cX5_feel 70 = .ok (.iload_n 1, 1) := by decide +kernel
theorem dX5_feel_71 : decode cX5_feel 71 = .ok (.iload_n 2, 1) := by decide +kernel
theorem dX5_feel_72 : decode cX5_feel 72 = .ok (.invokevirtual 168, 3) := by decide +kernel
theorem dX5_feel_75 : decode cX5_feel 75 = .ok (.ireturn, 1) := by decide +kernel
set_option maxRecDepth 20000 in
theorem ggX5_go_X5_refusalToMove : GoodIn wsX5_go wsX5_refusalToMove := goodIn_r _ [8, 1, 9, 10, 2, 11, 12, 13, 14, 15, 16, 17, 18, 19, 20, 21, 22, 23, 24, 25, 26, 27, 28, 29, 30, 31, 32, 33, 34, 35, 36, 37, 38, 39, 40, 41, 42, 82, 83, 84, 85, 86, 87, 88, 89, 90, 91, 92, 93, 94, 95, 96, 97, 98, 99, 100, 101, 102] (by decide +kernel) (by decide +kernel)
set_option maxRecDepth 20000 in
theorem gX5_go_X5_refusalToMove : GoodIn wsX5_go (wsV RX5 172 RX5 yX5_refusalToMove wsX5_refusalToMove) := goodIn_app (goodIn_of _ (by decide +kernel)) ggX5_go_X5_refusalToMove
set_option maxRecDepth 20000 in
theorem ggX5_go_X3_feelsAll : GoodIn wsX5_go wsX3_feelsAll := goodIn_r _ [46, 47, 48, 88, 89, 90, 91, 92, 93, 94, 95, 96, 97, 98, 99, 100, 101, 102] (by decide +kernel) (by decide +kernel)
set_option maxRecDepth 20000 in
theorem gX5_go_X3_feelsAll : GoodIn wsX5_go (wsV RX5 176 RX3 yX3_feelsAll wsX3_feelsAll) := goodIn_app (goodIn_of _ (by decide +kernel)) ggX5_go_X3_feelsAll
set_option maxRecDepth 20000 in
theorem ggX5_go_X4_add : GoodIn wsX5_go wsX4_add := goodIn_r _ [53, 54, 55, 56, 57, 58, 59, 14, 60, 21, 20, 61, 48, 62, 63, 47, 64, 65, 66, 67, 68, 69, 70, 26, 71, 72, 73, 74, 75, 76, 77, 103, 104, 105, 88, 89, 90, 91, 92, 93, 94, 95, 96, 97, 98, 99, 100, 101, 102] (by decide +kernel) (by decide +kernel)
set_option maxRecDepth 20000 in
theorem gX5_go_X4_add : GoodIn wsX5_go (wsV RX5 163 RX4 yX4_add wsX4_add) := goodIn_app (goodIn_of _ (by decide +kernel)) ggX5_go_X4_add
set_option maxRecDepth 20000 in
theorem ggX5_go_X3_carry : GoodIn wsX5_go wsX3_carry := goodIn_r _ [81, 63, 26, 27, 28, 29, 14, 30, 31, 32, 33, 34, 20, 21, 35, 36, 37, 38, 39, 40, 41, 42, 88, 89, 90, 91, 92, 93, 94, 95, 96, 97, 98, 99, 100, 101, 102] (by decide +kernel) (by decide +kernel)
set_option maxRecDepth 20000 in
theorem gX5_go_X3_carry : GoodIn wsX5_go (wsV RX5 179 RX3 yX3_carry wsX3_carry) := goodIn_app (goodIn_of _ (by decide +kernel)) ggX5_go_X3_carry
theorem dX5_go_0 : decode cX5_go 0 = .ok (.aload_n 0, 1) := by decide +kernel
theorem dX5_go_1 : decode cX5_go 1 = .ok (.iload_n 1, 1) := by decide +kernel
theorem dX5_go_2 : decode cX5_go 2 = .ok (.iload_n 2, 1) := by decide +kernel
theorem dX5_go_3 : decode cX5_go 3 = .ok (.iload_n 3, 1) := by decide +kernel
theorem dX5_go_4 : decode cX5_go 4 = .ok (.invokevirtual 172, 3) := by decide +kernel
theorem dX5_go_7 : decode cX5_go 7 = .ok (.istore 4, 2) := by decide +kernel
theorem dX5_go_9 : decode cX5_go 9 = .ok (.iload 4, 2) := by decide +kernel
theorem dX5_go_11 : decode cX5_go 11 = .ok (.ifCond .eq 6, 3) := by decide +kernel
theorem dX5_go_14 : decode cX5_go 14 = .ok (.iload 4, 2) := by decide +kernel
theorem dX5_go_16 : decode cX5_go 16 = .ok (.ireturn, 1) := by decide +kernel
theorem dX5_go_17 : decode cX5_go 17 = .ok (.aload_n 0, 1) := by decide +kernel
theorem dX5_go_18 : decode cX5_go 18 = .ok (.getfield 10, 3) := by decide +kernel
theorem dX5_go_21 : decode cX5_go 21 = .ok (.iload_n 1, 1) := by decide +kernel
theorem dX5_go_22 : decode cX5_go 22 = .ok (.invokevirtual 176, 3) := by decide +kernel
theorem dX5_go_25 : decode cX5_go 25 = .ok (.ifCond .ne 6, 3) := by decide +kernel
theorem dX5_go_28 : decode cX5_go 28 = .ok (.ldc 167, 2) := by decide +kernel
theorem dX5_go_30 : decode cX5_go 30 = .ok (.ireturn, 1) := by decide +kernel
theorem dX5_go_31 : decode cX5_go 31 = .ok (.aload_n 0, 1) := by decide +kernel
theorem dX5_go_32 : decode cX5_go 32 = .ok (.getfield 19, 3) := by decide +kernel
theorem dX5_go_35 : decode cX5_go 35 = .ok (.aload_n 0, 1) := by decide +kernel
theorem dX5_go_36 : decode cX5_go 36 = .ok (.getfield 10, 3) := by decide +kernel
theorem dX5_go_39 : decode cX5_go 39 = .ok (.invokevirtual 163, 3) := by decide +kernel
theorem dX5_go_42 : decode cX5_go 42 = .ok (.aload_n 0, 1) := by decide +kernel
theorem dX5_go_43 : decode cX5_go 43 = .ok (.getfield 10, 3) := by decide +kernel
theorem dX5_go_46 : decode cX5_go 46 = .ok (.iload_n 1, 1) := by decide +kernel
theorem dX5_go_47 : decode cX5_go 47 = .ok (.iload_n 2, 1) := by decide +kernel
theorem dX5_go_48 : decode cX5_go 48 = .ok (.iload_n 3, 1) := by decide +kernel
theorem dX5_go_49 : decode cX5_go 49 = .ok (.iconst 1, 1) := by decide +kernel
theorem dX5_go_50 : decode cX5_go 50 = .ok (.invokevirtual 179, 3) := by decide +kernel
theorem dX5_go_53 : decode cX5_go 53 = .ok (.ireturn, 1) := by decide +kernel
set_option maxRecDepth 20000 in
theorem ggX5_miss_X5_refusalToMove : GoodIn wsX5_miss wsX5_refusalToMove := goodIn_r _ [7, 2, 8, 9, 10, 11, 12, 13, 14, 15, 16, 17, 18, 19, 20, 21, 22, 23, 24, 25, 26, 27, 28, 29, 30, 31, 32, 33, 34, 35, 36, 37, 38, 39, 40, 41, 42, 78, 79, 80, 81, 82, 83, 84, 85, 86, 87, 88, 89, 90, 91, 92, 93, 94, 95, 96, 97, 98] (by decide +kernel) (by decide +kernel)
set_option maxRecDepth 20000 in
theorem gX5_miss_X5_refusalToMove : GoodIn wsX5_miss (wsV RX5 172 RX5 yX5_refusalToMove wsX5_refusalToMove) := goodIn_app (goodIn_of _ (by decide +kernel)) ggX5_miss_X5_refusalToMove
set_option maxRecDepth 20000 in
theorem ggX5_miss_X4_add : GoodIn wsX5_miss wsX4_add := goodIn_r _ [47, 48, 49, 50, 51, 52, 53, 14, 54, 21, 20, 55, 56, 57, 58, 59, 60, 61, 62, 63, 64, 65, 66, 26, 67, 68, 69, 70, 71, 72, 73, 99, 100, 101, 84, 85, 86, 87, 88, 89, 90, 91, 92, 93, 94, 95, 96, 97, 98] (by decide +kernel) (by decide +kernel)
set_option maxRecDepth 20000 in
theorem gX5_miss_X4_add : GoodIn wsX5_miss (wsV RX5 163 RX4 yX4_add wsX4_add) := goodIn_app (goodIn_of _ (by decide +kernel)) ggX5_miss_X4_add
set_option maxRecDepth 20000 in
theorem ggX5_miss_X3_carry : GoodIn wsX5_miss wsX3_carry := goodIn_r _ [77, 58, 26, 27, 28, 29, 14, 30, 31, 32, 33, 34, 20, 21, 35, 36, 37, 38, 39, 40, 41, 42, 84, 85, 86, 87, 88, 89, 90, 91, 92, 93, 94, 95, 96, 97, 98] (by decide +kernel) (by decide +kernel)
set_option maxRecDepth 20000 in
theorem gX5_miss_X3_carry : GoodIn wsX5_miss (wsV RX5 179 RX3 yX3_carry wsX3_carry) := goodIn_app (goodIn_of _ (by decide +kernel)) ggX5_miss_X3_carry
theorem dX5_miss_0 : decode cX5_miss 0 = .ok (.aload_n 0, 1) := by decide +kernel
theorem dX5_miss_1 : decode cX5_miss 1 = .ok (.iload_n 1, 1) := by decide +kernel
theorem dX5_miss_2 : decode cX5_miss 2 = .ok (.iload_n 2, 1) := by decide +kernel
theorem dX5_miss_3 : decode cX5_miss 3 = .ok (.iload_n 3, 1) := by decide +kernel
theorem dX5_miss_4 : decode cX5_miss 4 = .ok (.invokevirtual 172, 3) := by decide +kernel
theorem dX5_miss_7 : decode cX5_miss 7 = .ok (.istore 4, 2) := by decide +kernel
theorem dX5_miss_9 : decode cX5_miss 9 = .ok (.iload 4, 2) := by decide +kernel
theorem dX5_miss_11 : decode cX5_miss 11 = .ok (.ifCond .eq 6, 3) := by decide +kernel
theorem dX5_miss_14 : decode cX5_miss 14 = .ok (.iload 4, 2) := by decide +kernel
theorem dX5_miss_16 : decode cX5_miss 16 = .ok (.ireturn, 1) := by decide +kernel
theorem dX5_miss_17 : decode cX5_miss 17 = .ok (.aload_n 0, 1) := by decide +kernel
theorem dX5_miss_18 : decode cX5_miss 18 = .ok (.getfield 19, 3) := by decide +kernel
theorem dX5_miss_21 : decode cX5_miss 21 = .ok (.aload_n 0, 1) := by decide +kernel
theorem dX5_miss_22 : decode cX5_miss 22 = .ok (.getfield 10, 3) := by decide +kernel
theorem dX5_miss_25 : decode cX5_miss 25 = .ok (.invokevirtual 163, 3) := by decide +kernel
theorem dX5_miss_28 : decode cX5_miss 28 = .ok (.aload_n 0, 1) := by decide +kernel
theorem dX5_miss_29 : decode cX5_miss 29 = .ok (.getfield 10, 3) := by decide +kernel
theorem dX5_miss_32 : decode cX5_miss 32 = .ok (.iload_n 1, 1) := by decide +kernel
theorem dX5_miss_33 : decode cX5_miss 33 = .ok (.iload_n 2, 1) := by decide +kernel
theorem dX5_miss_34 : decode cX5_miss 34 = .ok (.iload_n 3, 1) := by decide +kernel
theorem dX5_miss_35 : decode cX5_miss 35 = .ok (.iconst 0, 1) := by decide +kernel
theorem dX5_miss_36 : decode cX5_miss 36 = .ok (.invokevirtual 179, 3) := by decide +kernel
theorem dX5_miss_39 : decode cX5_miss 39 = .ok (.ireturn, 1) := by decide +kernel
set_option maxRecDepth 20000 in
theorem ggX5_refusalToMove_X3_hasHead : GoodIn wsX5_refusalToMove wsX3_hasHead := goodIn_r _ [9, 10, 11, 12, 8, 13, 14, 15, 43, 44, 45, 46, 47, 48, 49, 50, 51, 52, 53, 54, 55, 56, 57] (by decide +kernel) (by decide +kernel)
set_option maxRecDepth 20000 in
theorem gX5_refusalToMove_X3_hasHead : GoodIn wsX5_refusalToMove (wsV RX5 124 RX3 yX3_hasHead wsX3_hasHead) := goodIn_app (goodIn_of _ (by decide +kernel)) ggX5_refusalToMove_X3_hasHead
set_option maxRecDepth 20000 in
theorem ggX5_refusalToMove_X3_canCarry : GoodIn wsX5_refusalToMove wsX3_canCarry := goodIn_r _ [19, 20, 21, 22, 23, 8, 24, 25, 26, 27, 28, 14, 15, 29, 30, 31, 32, 33, 34, 35, 36, 43, 44, 45, 46, 47, 48, 49, 50, 51, 52, 53, 54, 55, 56, 57] (by decide +kernel) (by decide +kernel)
set_option maxRecDepth 20000 in
theorem gX5_refusalToMove_X3_canCarry : GoodIn wsX5_refusalToMove (wsV RX5 183 RX3 yX3_canCarry wsX3_canCarry) := goodIn_app (goodIn_of _ (by decide +kernel)) ggX5_refusalToMove_X3_canCarry
theorem dX5_refusalToMove_0 : decode cX5_refusalToMove 0 = .ok (.aload_n 0, 1) := by decide +kernel
theorem dX5_refusalToMove_1 : decode cX5_refusalToMove 1 = .ok (.getfield 10, 3) := by decide +kernel
theorem dX5_refusalToMove_4 : decode cX5_refusalToMove 4 = .ok (.iload_n 1, 1) := by decide +kernel
theorem dX5_refusalToMove_5 : decode cX5_refusalToMove 5 = .ok (.invokevirtual 124, 3) := by decide +kernel
theorem dX5_refusalToMove_8 : decode cX5_refusalToMove 8 = .ok (.ifCond .ne 6, 3) := by decide +kernel
theorem dX5_refusalToMove_11 : decode cX5_refusalToMove 11 = .ok (.ldc 102, 2) := by decide +kernel
theorem dX5_refusalToMove_13 : decode cX5_refusalToMove 13 = .ok (.ireturn, 1) := by decide +kernel
theorem dX5_refusalToMove_14 : decode cX5_refusalToMove 14 = .ok (.iload_n 2, 1) := by decide +kernel
theorem dX5_refusalToMove_15 : decode cX5_refusalToMove 15 = .ok (.ifCond .lt 19, 3) := by decide +kernel
theorem dX5_refusalToMove_18 : decode cX5_refusalToMove 18 = .ok (.iload_n 2, 1) := by decide +kernel
theorem dX5_refusalToMove_19 : decode cX5_refusalToMove 19 = .ok (.iconst 1, 1) := by decide +kernel
theorem dX5_refusalToMove_20 : decode cX5_refusalToMove 20 = .ok (.if_icmp .gt 14, 3) := by decide +kernel
theorem dX5_refusalToMove_23 : decode cX5_refusalToMove 23 = .ok (.iload_n 3, 1) := by decide +kernel
theorem dX5_refusalToMove_24 : decode cX5_refusalToMove 24 = .ok (.iconst 1, 1) := by decide +kernel
theorem dX5_refusalToMove_25 : decode cX5_refusalToMove 25 = .ok (.if_icmp .lt 9, 3) := by decide +kernel
theorem dX5_refusalToMove_28 : decode cX5_refusalToMove 28 = .ok (.iload_n 3, 1) := by decide +kernel
theorem dX5_refusalToMove_29 : decode cX5_refusalToMove 29 = .ok (.bipush 9, 2) := by decide +kernel
theorem dX5_refusalToMove_31 : decode cX5_refusalToMove 31 = .ok (.if_icmp .le 6, 3) := by decide +kernel
theorem dX5_refusalToMove_34 : decode cX5_refusalToMove 34 = .ok (.ldc 97, 2) := by decide +kernel
theorem dX5_refusalToMove_36 : decode cX5_refusalToMove 36 = .ok (.ireturn, 1) := by decide +kernel
theorem dX5_refusalToMove_37 : decode cX5_refusalToMove 37 = .ok (.aload_n 0, 1) := by decide +kernel
theorem dX5_refusalToMove_38 : decode cX5_refusalToMove 38 = .ok (.getfield 10, 3) := by decide +kernel
theorem dX5_refusalToMove_41 : decode cX5_refusalToMove 41 = .ok (.iload_n 1, 1) := by decide +kernel
theorem dX5_refusalToMove_42 : decode cX5_refusalToMove 42 = .ok (.iload_n 2, 1) := by decide +kernel
theorem dX5_refusalToMove_43 : decode cX5_refusalToMove 43 = .ok (.iload_n 3, 1) := by decide +kernel
theorem dX5_refusalToMove_44 : decode cX5_refusalToMove 44 = .ok (.invokevirtual 183, 3) := by decide +kernel
theorem dX5_refusalToMove_47 : decode cX5_refusalToMove 47 = .ok (.ifCond .eq 7, 3) := by decide +kernel
theorem dX5_refusalToMove_50 : decode cX5_refusalToMove 50 = .ok (.iconst 0, 1) := by decide +kernel
theorem dX5_refusalToMove_51 : decode cX5_refusalToMove 51 = .ok (.goto 5, 3) := by decide +kernel
theorem dX5_refusalToMove_54 : decode cX5_refusalToMove 54 = .ok (.ldc 167, 2) := by decide +kernel
theorem dX5_refusalToMove_56 : decode cX5_refusalToMove 56 = .ok (.ireturn, 1) := by decide +kernel
set_option maxRecDepth 20000 in
theorem ggX5_tick_X3_hasHeads : GoodIn wsX5_tick wsX3_hasHeads := goodIn_r _ [8, 9, 10, 11, 7, 12, 13, 14, 129, 130, 131, 132, 133, 134, 135, 136, 137, 138, 139, 140, 141, 142, 143] (by decide +kernel) (by decide +kernel)
set_option maxRecDepth 20000 in
theorem gX5_tick_X3_hasHeads : GoodIn wsX5_tick (wsV RX5 187 RX3 yX3_hasHeads wsX3_hasHeads) := goodIn_app (goodIn_of _ (by decide +kernel)) ggX5_tick_X3_hasHeads
set_option maxRecDepth 20000 in
theorem ggX5_tick_X4_add : GoodIn wsX5_tick wsX4_add := goodIn_r _ [19, 20, 21, 22, 23, 24, 25, 7, 26, 14, 13, 27, 28, 29, 30, 31, 32, 33, 34, 35, 36, 37, 38, 39, 40, 41, 42, 43, 44, 45, 46, 144, 145, 146, 129, 130, 131, 132, 133, 134, 135, 136, 137, 138, 139, 140, 141, 142, 143] (by decide +kernel) (by decide +kernel)
set_option maxRecDepth 20000 in
theorem gX5_tick_X4_add : GoodIn wsX5_tick (wsV RX5 163 RX4 yX4_add wsX4_add) := goodIn_app (goodIn_of _ (by decide +kernel)) ggX5_tick_X4_add
set_option maxRecDepth 20000 in
theorem ggX5_tick_X3_pass : GoodIn wsX5_tick wsX3_pass := goodIn_r _ [50, 14, 27, 51, 52, 53, 7, 54, 34, 9, 10, 11, 12, 13, 55, 56, 57, 58, 30, 32, 33, 31, 59, 60, 61, 62, 63, 64, 65, 66, 36, 67, 68, 69, 70, 71, 72, 73, 74, 75, 76, 77, 78, 37, 79, 80, 81, 82, 83, 84, 85, 86, 87, 88, 89, 90, 91, 92, 93, 94, 95, 96, 97, 98, 38, 99, 100, 101, 102, 103, 104, 105, 106, 35, 107, 108, 109, 110, 111, 112, 113, 114, 115, 116, 117, 118, 129, 130, 131, 132, 133, 134, 135, 136, 137, 138, 139, 140, 141, 142, 143] (by decide +kernel) (by decide +kernel)
set_option maxRecDepth 20000 in
theorem gX5_tick_X3_pass : GoodIn wsX5_tick (wsV RX5 190 RX3 yX3_pass wsX3_pass) := goodIn_app (goodIn_of _ (by decide +kernel)) ggX5_tick_X3_pass
set_option maxRecDepth 20000 in
theorem ggX5_tick_X3_called : GoodIn wsX5_tick wsX3_called := goodIn_r _ [122, 14, 37, 129, 130, 131, 132, 133, 134, 135, 136, 137, 138, 139, 140, 141, 142, 143] (by decide +kernel) (by decide +kernel)
set_option maxRecDepth 20000 in
theorem gX5_tick_X3_called : GoodIn wsX5_tick (wsV RX5 67 RX3 yX3_called wsX3_called) := goodIn_app (goodIn_of _ (by decide +kernel)) ggX5_tick_X3_called
theorem dX5_tick_0 : decode cX5_tick 0 = .ok (.aload_n 0, 1) := by decide +kernel
theorem dX5_tick_1 : decode cX5_tick 1 = .ok (.getfield 10, 3) := by decide +kernel
theorem dX5_tick_4 : decode cX5_tick 4 = .ok (.iload_n 1, 1) := by decide +kernel
theorem dX5_tick_5 : decode cX5_tick 5 = .ok (.invokevirtual 187, 3) := by decide +kernel
theorem dX5_tick_8 : decode cX5_tick 8 = .ok (.ifCond .ne 6, 3) := by decide +kernel
theorem dX5_tick_11 : decode cX5_tick 11 = .ok (.ldc 102, 2) := by decide +kernel
theorem dX5_tick_13 : decode cX5_tick 13 = .ok (.ireturn, 1) := by decide +kernel
theorem dX5_tick_14 : decode cX5_tick 14 = .ok (.aload_n 0, 1) := by decide +kernel
theorem dX5_tick_15 : decode cX5_tick 15 = .ok (.getfield 19, 3) := by decide +kernel
theorem dX5_tick_18 : decode cX5_tick 18 = .ok (.aload_n 0, 1) := by decide +kernel
theorem dX5_tick_19 : decode cX5_tick 19 = .ok (.getfield 10, 3) := by decide +kernel
theorem dX5_tick_22 : decode cX5_tick 22 = .ok (.invokevirtual 163, 3) := by decide +kernel
theorem dX5_tick_25 : decode cX5_tick 25 = .ok (.aload_n 0, 1) := by decide +kernel
theorem dX5_tick_26 : decode cX5_tick 26 = .ok (.getfield 10, 3) := by decide +kernel
theorem dX5_tick_29 : decode cX5_tick 29 = .ok (.iload_n 1, 1) := by decide +kernel
theorem dX5_tick_30 : decode cX5_tick 30 = .ok (.invokevirtual 190, 3) := by decide +kernel
theorem dX5_tick_33 : decode cX5_tick 33 = .ok (.aload_n 0, 1) := by decide +kernel
theorem dX5_tick_34 : decode cX5_tick 34 = .ok (.getfield 10, 3) := by decide +kernel
theorem dX5_tick_37 : decode cX5_tick 37 = .ok (.iconst 0, 1) := by decide +kernel
theorem dX5_tick_38 : decode cX5_tick 38 = .ok (.invokevirtual 67, 3) := by decide +kernel
theorem dX5_tick_41 : decode cX5_tick 41 = .ok (.ireturn, 1) := by decide +kernel
set_option maxRecDepth 20000 in
theorem ggX5_reset_X3_hasSection : GoodIn wsX5_reset wsX3_hasSection := goodIn_r _ [11, 12, 56, 57, 58, 59, 60, 61, 62, 63, 64, 65, 66, 67, 68, 69, 70] (by decide +kernel) (by decide +kernel)
set_option maxRecDepth 20000 in
theorem gX5_reset_X3_hasSection : GoodIn wsX5_reset (wsV RX5 98 RX3 yX3_hasSection wsX3_hasSection) := goodIn_app (goodIn_of _ (by decide +kernel)) ggX5_reset_X3_hasSection
set_option maxRecDepth 20000 in
theorem ggX5_reset_X4_add : GoodIn wsX5_reset wsX4_add := goodIn_r _ [17, 18, 19, 20, 21, 22, 23, 10, 24, 12, 25, 26, 27, 28, 29, 30, 31, 32, 33, 34, 35, 36, 37, 38, 39, 40, 41, 42, 43, 44, 45, 71, 72, 73, 56, 57, 58, 59, 60, 61, 62, 63, 64, 65, 66, 67, 68, 69, 70] (by decide +kernel) (by decide +kernel)
set_option maxRecDepth 20000 in
theorem gX5_reset_X4_add : GoodIn wsX5_reset (wsV RX5 163 RX4 yX4_add wsX4_add) := goodIn_app (goodIn_of _ (by decide +kernel)) ggX5_reset_X4_add
set_option maxRecDepth 20000 in
theorem ggX5_reset_X3_awaitSweep : GoodIn wsX5_reset wsX3_awaitSweep := goodIn_r _ [49, 35, 36, 37, 56, 57, 58, 59, 60, 61, 62, 63, 64, 65, 66, 67, 68, 69, 70] (by decide +kernel) (by decide +kernel)
set_option maxRecDepth 20000 in
theorem gX5_reset_X3_awaitSweep : GoodIn wsX5_reset (wsV RX5 194 RX3 yX3_awaitSweep wsX3_awaitSweep) := goodIn_app (goodIn_of _ (by decide +kernel)) ggX5_reset_X3_awaitSweep
theorem dX5_reset_0 : decode cX5_reset 0 = .ok (.aload_n 0, 1) := by decide +kernel
theorem dX5_reset_1 : decode cX5_reset 1 = .ok (.getfield 10, 3) := by decide +kernel
theorem dX5_reset_4 : decode cX5_reset 4 = .ok (.iload_n 1, 1) := by decide +kernel
theorem dX5_reset_5 : decode cX5_reset 5 = .ok (.invokevirtual 98, 3) := by decide +kernel
theorem dX5_reset_8 : decode cX5_reset 8 = .ok (.ifCond .ne 6, 3) := by decide +kernel
theorem dX5_reset_11 : decode cX5_reset 11 = .ok (.ldc 102, 2) := by decide +kernel
theorem dX5_reset_13 : decode cX5_reset 13 = .ok (.ireturn, 1) := by decide +kernel
theorem dX5_reset_14 : decode cX5_reset 14 = .ok (.aload_n 0, 1) := by decide +kernel
theorem dX5_reset_15 : decode cX5_reset 15 = .ok (.getfield 10, 3) := by decide +kernel
theorem dX5_reset_18 : decode cX5_reset 18 = .ok (.getfield 103, 3) := by decide +kernel
theorem dX5_reset_21 : decode cX5_reset 21 = .ok (.iload_n 1, 1) := by decide +kernel
theorem dX5_reset_22 : decode cX5_reset 22 = .ok (.iaload, 1) := by decide +kernel
theorem dX5_reset_23 : decode cX5_reset 23 = .ok (.iconst 2, 1) := by decide +kernel
theorem dX5_reset_24 : decode cX5_reset 24 = .ok (.if_icmp .eq 6, 3) := by decide +kernel
theorem dX5_reset_27 : decode cX5_reset 27 = .ok (.ldc 167, 2) := by decide +kernel
theorem dX5_reset_29 : decode cX5_reset 29 = .ok (.ireturn, 1) := by decide +kernel
theorem dX5_reset_30 : decode cX5_reset 30 = .ok (.aload_n 0, 1) := by decide +kernel
theorem dX5_reset_31 : decode cX5_reset 31 = .ok (.getfield 19, 3) := by decide +kernel
theorem dX5_reset_34 : decode cX5_reset 34 = .ok (.aload_n 0, 1) := by decide +kernel
theorem dX5_reset_35 : decode cX5_reset 35 = .ok (.getfield 10, 3) := by decide +kernel
theorem dX5_reset_38 : decode cX5_reset 38 = .ok (.invokevirtual 163, 3) := by decide +kernel
theorem dX5_reset_41 : decode cX5_reset 41 = .ok (.aload_n 0, 1) := by decide +kernel
theorem dX5_reset_42 : decode cX5_reset 42 = .ok (.getfield 10, 3) := by decide +kernel
theorem dX5_reset_45 : decode cX5_reset 45 = .ok (.getfield 106, 3) := by decide +kernel
theorem dX5_reset_48 : decode cX5_reset 48 = .ok (.iload_n 1, 1) := by decide +kernel
theorem dX5_reset_49 : decode cX5_reset 49 = .ok (.iaload, 1) := by decide +kernel
theorem dX5_reset_50 : decode cX5_reset 50 = .ok (.istore_n 2, 1) := by decide +kernel
theorem dX5_reset_51 : decode cX5_reset 51 = .ok (.aload_n 0, 1) := by decide +kernel
theorem dX5_reset_52 : decode cX5_reset 52 = .ok (.getfield 10, 3) := by decide +kernel
theorem dX5_reset_55 : decode cX5_reset 55 = .ok (.iload_n 1, 1) := by decide +kernel
theorem dX5_reset_56 : decode cX5_reset 56 = .ok (.invokevirtual 194, 3) := by decide +kernel
theorem dX5_reset_59 : decode cX5_reset 59 = .ok (.iload_n 2, 1) := by decide +kernel
theorem dX5_reset_60 : decode cX5_reset 60 = .ok (.sipush 1000, 3) := by decide +kernel
theorem dX5_reset_63 : decode cX5_reset 63 = .ok (.iadd, 1) := by decide +kernel
theorem dX5_reset_64 : decode cX5_reset 64 = .ok (.ireturn, 1) := by decide +kernel
set_option maxRecDepth 20000 in
theorem ggX5_repair_X3_hasHead : GoodIn wsX5_repair wsX3_hasHead := goodIn_r _ [11, 12, 13, 14, 10, 15, 16, 17, 60, 61, 62, 63, 64, 65, 66, 67, 68, 69, 70, 71, 72, 73, 74] (by decide +kernel) (by decide +kernel)
set_option maxRecDepth 20000 in
theorem gX5_repair_X3_hasHead : GoodIn wsX5_repair (wsV RX5 124 RX3 yX3_hasHead wsX3_hasHead) := goodIn_app (goodIn_of _ (by decide +kernel)) ggX5_repair_X3_hasHead
set_option maxRecDepth 20000 in
theorem ggX5_repair_X4_add : GoodIn wsX5_repair wsX4_add := goodIn_r _ [22, 23, 24, 25, 26, 27, 28, 10, 29, 17, 16, 30, 31, 32, 33, 34, 35, 36, 37, 38, 39, 40, 41, 42, 43, 44, 45, 46, 47, 48, 49, 75, 76, 77, 60, 61, 62, 63, 64, 65, 66, 67, 68, 69, 70, 71, 72, 73, 74] (by decide +kernel) (by decide +kernel)
set_option maxRecDepth 20000 in
theorem gX5_repair_X4_add : GoodIn wsX5_repair (wsV RX5 163 RX4 yX4_add wsX4_add) := goodIn_app (goodIn_of _ (by decide +kernel)) ggX5_repair_X4_add
set_option maxRecDepth 20000 in
theorem ggX5_repair_X3_mend : GoodIn wsX5_repair wsX3_mend := goodIn_r _ [53, 34, 31, 32, 60, 61, 62, 63, 64, 65, 66, 67, 68, 69, 70, 71, 72, 73, 74] (by decide +kernel) (by decide +kernel)
set_option maxRecDepth 20000 in
theorem gX5_repair_X3_mend : GoodIn wsX5_repair (wsV RX5 197 RX3 yX3_mend wsX3_mend) := goodIn_app (goodIn_of _ (by decide +kernel)) ggX5_repair_X3_mend
theorem dX5_repair_0 : decode cX5_repair 0 = .ok (.aload_n 0, 1) := by decide +kernel
theorem dX5_repair_1 : decode cX5_repair 1 = .ok (.getfield 10, 3) := by decide +kernel
theorem dX5_repair_4 : decode cX5_repair 4 = .ok (.iload_n 1, 1) := by decide +kernel
theorem dX5_repair_5 : decode cX5_repair 5 = .ok (.invokevirtual 124, 3) := by decide +kernel
theorem dX5_repair_8 : decode cX5_repair 8 = .ok (.ifCond .ne 6, 3) := by decide +kernel
theorem dX5_repair_11 : decode cX5_repair 11 = .ok (.ldc 102, 2) := by decide +kernel
theorem dX5_repair_13 : decode cX5_repair 13 = .ok (.ireturn, 1) := by decide +kernel
theorem dX5_repair_14 : decode cX5_repair 14 = .ok (.aload_n 0, 1) := by decide +kernel
theorem dX5_repair_15 : decode cX5_repair 15 = .ok (.getfield 10, 3) := by decide +kernel
theorem dX5_repair_18 : decode cX5_repair 18 = .ok (.getfield 142, 3) := by decide +kernel
theorem dX5_repair_21 : decode cX5_repair 21 = .ok (.iload_n 1, 1) := by decide +kernel
theorem dX5_repair_22 : decode cX5_repair 22 = .ok (.iaload, 1) := by decide +kernel
theorem dX5_repair_23 : decode cX5_repair 23 = .ok (.ifCond .ne 6, 3) := by decide +kernel
theorem dX5_repair_26 : decode cX5_repair 26 = .ok (.ldc 167, 2) := by decide +kernel
theorem dX5_repair_28 : decode cX5_repair 28 = .ok (.ireturn, 1) := by decide +kernel
theorem dX5_repair_29 : decode cX5_repair 29 = .ok (.aload_n 0, 1) := by decide +kernel
theorem dX5_repair_30 : decode cX5_repair 30 = .ok (.getfield 19, 3) := by decide +kernel
theorem dX5_repair_33 : decode cX5_repair 33 = .ok (.aload_n 0, 1) := by decide +kernel
theorem dX5_repair_34 : decode cX5_repair 34 = .ok (.getfield 10, 3) := by decide +kernel
theorem dX5_repair_37 : decode cX5_repair 37 = .ok (.invokevirtual 163, 3) := by decide +kernel
theorem dX5_repair_40 : decode cX5_repair 40 = .ok (.aload_n 0, 1) := by decide +kernel
theorem dX5_repair_41 : decode cX5_repair 41 = .ok (.getfield 10, 3) := by decide +kernel
theorem dX5_repair_44 : decode cX5_repair 44 = .ok (.getfield 127, 3) := by decide +kernel
theorem dX5_repair_47 : decode cX5_repair 47 = .ok (.iload_n 1, 1) := by decide +kernel
theorem dX5_repair_48 : decode cX5_repair 48 = .ok (.iaload, 1) := by decide +kernel
theorem dX5_repair_49 : decode cX5_repair 49 = .ok (.istore_n 2, 1) := by decide +kernel
theorem dX5_repair_50 : decode cX5_repair 50 = .ok (.aload_n 0, 1) := by decide +kernel
theorem dX5_repair_51 : decode cX5_repair 51 = .ok (.getfield 10, 3) := by decide +kernel
theorem dX5_repair_54 : decode cX5_repair 54 = .ok (.iload_n 1, 1) := by decide +kernel
theorem dX5_repair_55 : decode cX5_repair 55 = .ok (.invokevirtual 197, 3) := by decide +kernel
theorem dX5_repair_58 : decode cX5_repair 58 = .ok (.iload_n 2, 1) := by decide +kernel
theorem dX5_repair_59 : decode cX5_repair 59 = .ok (.ifCond .ne 7, 3) := by decide +kernel
theorem dX5_repair_62 : decode cX5_repair 62 = .ok (.iconst 1, 1) := by decide +kernel
theorem dX5_repair_63 : decode cX5_repair 63 = .ok (.goto 4, 3) := by decide +kernel
theorem dX5_repair_66 : decode cX5_repair 66 = .ok (.iconst 0, 1) := by decide +kernel
theorem dX5_repair_67 : decode cX5_repair 67 = .ok (.ireturn, 1) := by decide +kernel
set_option maxRecDepth 20000 in
theorem ggX5_drift_X4_add : GoodIn wsX5_drift wsX4_add := goodIn_r _ [8, 9, 10, 11, 12, 13, 14, 15, 16, 17, 18, 19, 20, 21, 22, 23, 24, 25, 26, 27, 28, 29, 30, 31, 32, 33, 34, 35, 36, 37, 38, 157, 158, 159, 160, 161, 162, 163, 164, 165, 166, 167, 168, 169, 170, 171, 172, 173, 174] (by decide +kernel) (by decide +kernel)
set_option maxRecDepth 20000 in
theorem gX5_drift_X4_add : GoodIn wsX5_drift (wsV RX5 163 RX4 yX4_add wsX4_add) := goodIn_app (goodIn_of _ (by decide +kernel)) ggX5_drift_X4_add
set_option maxRecDepth 20000 in
theorem ggX5_drift_X5_driftOnce : GoodIn wsX5_drift wsX5_driftOnce := goodIn_r _ [43, 44, 3, 45, 46, 47, 15, 48, 18, 17, 49, 50, 51, 52, 53, 54, 55, 56, 57, 58, 59, 60, 61, 31, 62, 63, 64, 65, 66, 67, 68, 69, 70, 71, 72, 73, 74, 75, 76, 77, 78, 79, 80, 81, 23, 20, 82, 83, 84, 85, 22, 86, 87, 88, 89, 19, 90, 91, 92, 93, 26, 94, 95, 96, 97, 98, 24, 25, 99, 100, 101, 102, 28, 103, 104, 105, 106, 29, 107, 108, 109, 110, 111, 112, 113, 114, 115, 116, 117, 118, 119, 120, 121, 122, 123, 124, 125, 126, 30, 127, 128, 129, 130, 131, 132, 133, 134, 27, 135, 136, 137, 138, 139, 140, 141, 142, 143, 144, 145, 146, 151, 152, 153, 154, 155, 156, 160, 161, 162, 163, 164, 165, 166, 167, 168, 169, 170, 171, 172, 173, 174, 175] (by decide +kernel) (by decide +kernel)
set_option maxRecDepth 20000 in
theorem gX5_drift_X5_driftOnce : GoodIn wsX5_drift (wsV RX5 200 RX5 yX5_driftOnce wsX5_driftOnce) := goodIn_app (goodIn_of _ (by decide +kernel)) ggX5_drift_X5_driftOnce
set_option maxRecDepth 20000 in
theorem ggX5_drift_X3_called : GoodIn wsX5_drift wsX3_called := goodIn_r _ [150, 17, 29, 160, 161, 162, 163, 164, 165, 166, 167, 168, 169, 170, 171, 172, 173, 174] (by decide +kernel) (by decide +kernel)
set_option maxRecDepth 20000 in
theorem gX5_drift_X3_called : GoodIn wsX5_drift (wsV RX5 67 RX3 yX3_called wsX3_called) := goodIn_app (goodIn_of _ (by decide +kernel)) ggX5_drift_X3_called
theorem dX5_drift_0 : decode cX5_drift 0 = .ok (.iload_n 1, 1) := by decide +kernel
theorem dX5_drift_1 : decode cX5_drift 1 = .ok (.iconst 1, 1) := by decide +kernel
theorem dX5_drift_2 : decode cX5_drift 2 = .ok (.if_icmp .lt 9, 3) := by decide +kernel
theorem dX5_drift_5 : decode cX5_drift 5 = .ok (.iload_n 1, 1) := by decide +kernel
theorem dX5_drift_6 : decode cX5_drift 6 = .ok (.bipush 16, 2) := by decide +kernel
theorem dX5_drift_8 : decode cX5_drift 8 = .ok (.if_icmp .le 6, 3) := by decide +kernel
theorem dX5_drift_11 : decode cX5_drift 11 = .ok (.ldc 97, 2) := by decide +kernel
theorem dX5_drift_13 : decode cX5_drift 13 = .ok (.ireturn, 1) := by decide +kernel
theorem dX5_drift_14 : decode cX5_drift 14 = .ok (.iconst 0, 1) := by decide +kernel
theorem dX5_drift_15 : decode cX5_drift 15 = .ok (.istore_n 2, 1) := by decide +kernel
theorem dX5_drift_16 : decode cX5_drift 16 = .ok (.iload_n 2, 1) := by decide +kernel
theorem dX5_drift_17 : decode cX5_drift 17 = .ok (.iload_n 1, 1) := by decide +kernel
theorem dX5_drift_18 : decode cX5_drift 18 = .ok (.if_icmp .ge 24, 3) := by decide +kernel
theorem dX5_drift_21 : decode cX5_drift 21 = .ok (.aload_n 0, 1) := by decide +kernel
theorem dX5_drift_22 : decode cX5_drift 22 = .ok (.getfield 19, 3) := by decide +kernel
theorem dX5_drift_25 : decode cX5_drift 25 = .ok (.aload_n 0, 1) := by decide +kernel
theorem dX5_drift_26 : decode cX5_drift 26 = .ok (.getfield 10, 3) := by decide +kernel
theorem dX5_drift_29 : decode cX5_drift 29 = .ok (.invokevirtual 163, 3) := by decide +kernel
theorem dX5_drift_32 : decode cX5_drift 32 = .ok (.aload_n 0, 1) := by decide +kernel
theorem dX5_drift_33 : decode cX5_drift 33 = .ok (.invokevirtual 200, 3) := by decide +kernel
theorem dX5_drift_36 : decode cX5_drift 36 = .ok (.iinc 2 1, 3) := by decide +kernel
theorem dX5_drift_39 : decode cX5_drift 39 = .ok (.goto (-23), 3) := by decide +kernel
theorem dX5_drift_42 : decode cX5_drift 42 = .ok (.aload_n 0, 1) := by decide +kernel
theorem dX5_drift_43 : decode cX5_drift 43 = .ok (.getfield 10, 3) := by decide +kernel
theorem dX5_drift_46 : decode cX5_drift 46 = .ok (.iconst 0, 1) := by decide +kernel
theorem dX5_drift_47 : decode cX5_drift 47 = .ok (.invokevirtual 67, 3) := by decide +kernel
theorem dX5_drift_50 : decode cX5_drift 50 = .ok (.ireturn, 1) := by decide +kernel
set_option maxRecDepth 20000 in
theorem ggX5_driftOnce_X3_heads : GoodIn wsX5_driftOnce wsX3_heads := goodIn_r _ [7, 8, 9, 126, 127, 128, 129, 130, 131, 132, 133, 134, 135, 136, 137, 138, 139, 140] (by decide +kernel) (by decide +kernel)
set_option maxRecDepth 20000 in
theorem gX5_driftOnce_X3_heads : GoodIn wsX5_driftOnce (wsV RX5 56 RX3 yX3_heads wsX3_heads) := goodIn_app (goodIn_of _ (by decide +kernel)) ggX5_driftOnce_X3_heads
set_option maxRecDepth 20000 in
theorem ggX5_driftOnce_X1_next : GoodIn wsX5_driftOnce wsX1_next := goodIn_r _ [14, 15, 16, 17, 18, 141] (by decide +kernel) (by decide +kernel)
set_option maxRecDepth 20000 in
theorem gX5_driftOnce_X1_next : GoodIn wsX5_driftOnce (wsV RX5 203 RX1 yX1_next wsX1_next) := goodIn_app (goodIn_of _ (by decide +kernel)) ggX5_driftOnce_X1_next
set_option maxRecDepth 20000 in
theorem ggX5_driftOnce_X3_canCarry : GoodIn wsX5_driftOnce wsX3_canCarry := goodIn_r _ [22, 23, 24, 25, 26, 6, 27, 28, 29, 30, 31, 8, 9, 32, 33, 34, 35, 36, 37, 38, 39, 126, 127, 128, 129, 130, 131, 132, 133, 134, 135, 136, 137, 138, 139, 140] (by decide +kernel) (by decide +kernel)
set_option maxRecDepth 20000 in
theorem gX5_driftOnce_X3_canCarry : GoodIn wsX5_driftOnce (wsV RX5 183 RX3 yX3_canCarry wsX3_canCarry) := goodIn_app (goodIn_of _ (by decide +kernel)) ggX5_driftOnce_X3_canCarry
set_option maxRecDepth 20000 in
theorem ggX5_driftOnce_X3_feelsAll : GoodIn wsX5_driftOnce wsX3_feelsAll := goodIn_r _ [43, 44, 45, 126, 127, 128, 129, 130, 131, 132, 133, 134, 135, 136, 137, 138, 139, 140] (by decide +kernel) (by decide +kernel)
set_option maxRecDepth 20000 in
theorem gX5_driftOnce_X3_feelsAll : GoodIn wsX5_driftOnce (wsV RX5 176 RX3 yX3_feelsAll wsX3_feelsAll) := goodIn_app (goodIn_of _ (by decide +kernel)) ggX5_driftOnce_X3_feelsAll
set_option maxRecDepth 20000 in
theorem ggX5_driftOnce_X3_carry : GoodIn wsX5_driftOnce wsX3_carry := goodIn_r _ [49, 50, 23, 24, 25, 26, 6, 27, 28, 29, 30, 31, 8, 9, 32, 33, 34, 35, 36, 37, 38, 39, 126, 127, 128, 129, 130, 131, 132, 133, 134, 135, 136, 137, 138, 139, 140] (by decide +kernel) (by decide +kernel)
set_option maxRecDepth 20000 in
theorem gX5_driftOnce_X3_carry : GoodIn wsX5_driftOnce (wsV RX5 179 RX3 yX3_carry wsX3_carry) := goodIn_app (goodIn_of _ (by decide +kernel)) ggX5_driftOnce_X3_carry
set_option maxRecDepth 20000 in
theorem ggX5_driftOnce_X3_pass : GoodIn wsX5_driftOnce wsX3_pass := goodIn_r _ [54, 9, 55, 56, 57, 58, 6, 59, 60, 61, 4, 5, 7, 8, 62, 63, 64, 65, 50, 66, 67, 44, 32, 33, 34, 35, 68, 69, 70, 71, 72, 36, 37, 38, 39, 28, 29, 30, 31, 73, 74, 75, 76, 77, 78, 79, 80, 81, 82, 83, 84, 85, 86, 87, 88, 89, 90, 91, 92, 93, 94, 95, 96, 97, 98, 99, 100, 101, 102, 103, 104, 105, 106, 107, 108, 109, 110, 111, 112, 113, 114, 115, 116, 117, 118, 119, 126, 127, 128, 129, 130, 131, 132, 133, 134, 135, 136, 137, 138, 139, 140] (by decide +kernel) (by decide +kernel)
set_option maxRecDepth 20000 in
theorem gX5_driftOnce_X3_pass : GoodIn wsX5_driftOnce (wsV RX5 190 RX3 yX3_pass wsX3_pass) := goodIn_app (goodIn_of _ (by decide +kernel)) ggX5_driftOnce_X3_pass
theorem dX5_driftOnce_0 : decode cX5_driftOnce 0 = .ok (.aload_n 0, 1) := by decide +kernel
theorem dX5_driftOnce_1 : decode cX5_driftOnce 1 = .ok (.getfield 33, 3) := by decide +kernel
theorem dX5_driftOnce_4 : decode cX5_driftOnce 4 = .ok (.aload_n 0, 1) := by decide +kernel
theorem dX5_driftOnce_5 : decode cX5_driftOnce 5 = .ok (.getfield 10, 3) := by decide +kernel
theorem dX5_driftOnce_8 : decode cX5_driftOnce 8 = .ok (.invokevirtual 56, 3) := by decide +kernel
theorem dX5_driftOnce_11 : decode cX5_driftOnce 11 = .ok (.invokevirtual 203, 3) := by decide +kernel
theorem dX5_driftOnce_14 : decode cX5_driftOnce 14 = .ok (.istore_n 1, 1) := by decide +kernel
theorem dX5_driftOnce_15 : decode cX5_driftOnce 15 = .ok (.aload_n 0, 1) := by decide +kernel
theorem dX5_driftOnce_16 : decode cX5_driftOnce 16 = .ok (.getfield 33, 3) := by decide +kernel
theorem dX5_driftOnce_19 : decode cX5_driftOnce 19 = .ok (.iconst 2, 1) := by decide +kernel
theorem dX5_driftOnce_20 : decode cX5_driftOnce 20 = .ok (.invokevirtual 203, 3) := by decide +kernel
theorem dX5_driftOnce_23 : decode cX5_driftOnce 23 = .ok (.istore_n 2, 1) := by decide +kernel
theorem dX5_driftOnce_24 : decode cX5_driftOnce 24 = .ok (.aload_n 0, 1) := by decide +kernel
theorem dX5_driftOnce_25 : decode cX5_driftOnce 25 = .ok (.getfield 33, 3) := by decide +kernel
theorem dX5_driftOnce_28 : decode cX5_driftOnce 28 = .ok (.iconst 3, 1) := by decide +kernel
theorem dX5_driftOnce_29 : decode cX5_driftOnce 29 = .ok (.invokevirtual 203, 3) := by decide +kernel
theorem dX5_driftOnce_32 : decode cX5_driftOnce 32 = .ok (.iconst 1, 1) := by decide +kernel
theorem dX5_driftOnce_33 : decode cX5_driftOnce 33 = .ok (.iadd, 1) := by decide +kernel
theorem dX5_driftOnce_34 : decode cX5_driftOnce 34 = .ok (.istore_n 3, 1) := by decide +kernel
theorem dX5_driftOnce_35 : decode cX5_driftOnce 35 = .ok (.aload_n 0, 1) := by decide +kernel
theorem dX5_driftOnce_36 : decode cX5_driftOnce 36 = .ok (.getfield 33, 3) := by decide +kernel
theorem dX5_driftOnce_39 : decode cX5_driftOnce 39 = .ok (.bipush 16, 2) := by decide +kernel
theorem dX5_driftOnce_41 : decode cX5_driftOnce 41 = .ok (.invokevirtual 203, 3) := by decide +kernel
theorem dX5_driftOnce_44 : decode cX5_driftOnce 44 = .ok (.istore 4, 2) := by decide +kernel
theorem dX5_driftOnce_46 : decode cX5_driftOnce 46 = .ok (.aload_n 0, 1) := by decide +kernel
theorem dX5_driftOnce_47 : decode cX5_driftOnce 47 = .ok (.getfield 33, 3) := by decide +kernel
theorem dX5_driftOnce_50 : decode cX5_driftOnce 50 = .ok (.iconst 1, 1) := by decide +kernel
theorem dX5_driftOnce_51 : decode cX5_driftOnce 51 = .ok (.aload_n 0, 1) := by decide +kernel
theorem dX5_driftOnce_52 : decode cX5_driftOnce 52 = .ok (.getfield 10, 3) := by decide +kernel
theorem dX5_driftOnce_55 : decode cX5_driftOnce 55 = .ok (.invokevirtual 56, 3) := by decide +kernel
theorem dX5_driftOnce_58 : decode cX5_driftOnce 58 = .ok (.ishl, 1) := by decide +kernel
theorem dX5_driftOnce_59 : decode cX5_driftOnce 59 = .ok (.invokevirtual 203, 3) := by decide +kernel
theorem dX5_driftOnce_62 : decode cX5_driftOnce 62 = .ok (.istore 5, 2) := by decide +kernel
theorem dX5_driftOnce_64 : decode cX5_driftOnce 64 = .ok (.aload_n 0, 1) := by decide +kernel
theorem dX5_driftOnce_65 : decode cX5_driftOnce 65 = .ok (.getfield 10, 3) := by decide +kernel
theorem dX5_driftOnce_68 : decode cX5_driftOnce 68 = .ok (.iload_n 1, 1) := by decide +kernel
theorem dX5_driftOnce_69 : decode cX5_driftOnce 69 = .ok (.iload_n 2, 1) := by decide +kernel
theorem dX5_driftOnce_70 : decode cX5_driftOnce 70 = .ok (.iload_n 3, 1) := by decide +kernel
theorem dX5_driftOnce_71 : decode cX5_driftOnce 71 = .ok (.invokevirtual 183, 3) := by decide +kernel
theorem dX5_driftOnce_74 : decode cX5_driftOnce 74 = .ok (.ifCond .eq 35, 3) := by decide +kernel
theorem dX5_driftOnce_77 : decode cX5_driftOnce 77 = .ok (.aload_n 0, 1) := by decide +kernel
theorem dX5_driftOnce_78 : decode cX5_driftOnce 78 = .ok (.getfield 10, 3) := by decide +kernel
theorem dX5_driftOnce_81 : decode cX5_driftOnce 81 = .ok (.iload_n 1, 1) := by decide +kernel
theorem dX5_driftOnce_82 : decode cX5_driftOnce 82 = .ok (.iload_n 2, 1) := by decide +kernel
theorem dX5_driftOnce_83 : decode cX5_driftOnce 83 = .ok (.iload_n 3, 1) := by decide +kernel
theorem dX5_driftOnce_84 : decode cX5_driftOnce 84 = .ok (.iload 4, 2) := by decide +kernel
theorem dX5_driftOnce_86 : decode cX5_driftOnce 86 = .ok (.ifCond .eq 18, 3) := by decide +kernel
theorem dX5_driftOnce_89 : decode cX5_driftOnce 89 = .ok (.aload_n 0, 1) := by decide +kernel
theorem dX5_driftOnce_90 : decode cX5_driftOnce 90 = .ok (.getfield 10, 3) := by decide +kernel
theorem dX5_driftOnce_93 : decode cX5_driftOnce 93 = .ok (.iload_n 1, 1) := by decide +kernel
theorem dX5_driftOnce_94 : decode cX5_driftOnce 94 = .ok (.invokevirtual 176, 3) := by decide +kernel
theorem dX5_driftOnce_97 : decode cX5_driftOnce 97 = .ok (.ifCond .eq 7, 3) := by decide +kernel
theorem dX5_driftOnce_100 : decode cX5_driftOnce 100 = .ok (.iconst 1, 1) := by decide +kernel
theorem dX5_driftOnce_101 : decode cX5_driftOnce 101 = .ok (.goto 4, 3) := by decide +kernel
theorem dX5_driftOnce_104 : decode cX5_driftOnce 104 = .ok (.iconst 0, 1) := by decide +kernel
theorem dX5_driftOnce_105 : decode cX5_driftOnce 105 = .ok (.invokevirtual 179, 3) := by decide +kernel
theorem dX5_driftOnce_108 : decode cX5_driftOnce 108 = .ok (.pop, 1) := by decide +kernel
theorem dX5_driftOnce_109 : decode cX5_driftOnce 109 = .ok (.aload_n 0, 1) := by decide +kernel
theorem dX5_driftOnce_110 : decode cX5_driftOnce 110 = .ok (.getfield 10, 3) := by decide +kernel
theorem dX5_driftOnce_113 : decode cX5_driftOnce 113 = .ok (.iload 4, 2) := by decide +kernel
theorem dX5_driftOnce_115 : decode cX5_driftOnce 115 = .ok (.iconst 4, 1) := by decide +kernel
theorem dX5_driftOnce_116 : decode cX5_driftOnce 116 = .ok (.if_icmp .ge 8, 3) := by decide +kernel
theorem dX5_driftOnce_119 : decode cX5_driftOnce 119 = .ok (.iload 5, 2) := by decide +kernel
theorem dX5_driftOnce_121 : decode cX5_driftOnce 121 = .ok (.goto 4, 3) := by decide +kernel
theorem dX5_driftOnce_124 : decode cX5_driftOnce 124 = .ok (.iconst 0, 1) := by decide +kernel
theorem dX5_driftOnce_125 : decode cX5_driftOnce 125 = .ok (.invokevirtual 190, 3) := by decide +kernel
theorem dX5_driftOnce_128 : decode cX5_driftOnce 128 = .ok (.return_, 1) := by decide +kernel
set_option maxRecDepth 20000 in
theorem ggX5_undo_X4_takeBack : GoodIn wsX5_undo wsX4_takeBack := goodIn_r _ [10, 11, 12, 13, 14, 15, 16, 17, 18, 19, 20, 21, 22, 23, 24, 25, 26, 27, 28, 29, 30, 31, 32, 33, 34, 35, 36, 37, 38, 39, 40, 47, 48, 49, 50, 51, 52, 53, 54, 55, 56, 57, 58, 59, 60, 61, 62, 63, 64] (by decide +kernel) (by decide +kernel)
set_option maxRecDepth 20000 in
theorem gX5_undo_X4_takeBack : GoodIn wsX5_undo (wsV RX5 206 RX4 yX4_takeBack wsX4_takeBack) := goodIn_app (goodIn_of _ (by decide +kernel)) ggX5_undo_X4_takeBack
theorem dX5_undo_0 : decode cX5_undo 0 = .ok (.iload_n 1, 1) := by decide +kernel
theorem dX5_undo_1 : decode cX5_undo 1 = .ok (.iconst 1, 1) := by decide +kernel
theorem dX5_undo_2 : decode cX5_undo 2 = .ok (.if_icmp .lt 9, 3) := by decide +kernel
theorem dX5_undo_5 : decode cX5_undo 5 = .ok (.iload_n 1, 1) := by decide +kernel
theorem dX5_undo_6 : decode cX5_undo 6 = .ok (.bipush 16, 2) := by decide +kernel
theorem dX5_undo_8 : decode cX5_undo 8 = .ok (.if_icmp .le 6, 3) := by decide +kernel
theorem dX5_undo_11 : decode cX5_undo 11 = .ok (.ldc 97, 2) := by decide +kernel
theorem dX5_undo_13 : decode cX5_undo 13 = .ok (.ireturn, 1) := by decide +kernel
theorem dX5_undo_14 : decode cX5_undo 14 = .ok (.iload_n 1, 1) := by decide +kernel
theorem dX5_undo_15 : decode cX5_undo 15 = .ok (.aload_n 0, 1) := by decide +kernel
theorem dX5_undo_16 : decode cX5_undo 16 = .ok (.getfield 19, 3) := by decide +kernel
theorem dX5_undo_19 : decode cX5_undo 19 = .ok (.getfield 96, 3) := by decide +kernel
theorem dX5_undo_22 : decode cX5_undo 22 = .ok (.if_icmp .le 6, 3) := by decide +kernel
theorem dX5_undo_25 : decode cX5_undo 25 = .ok (.ldc 167, 2) := by decide +kernel
theorem dX5_undo_27 : decode cX5_undo 27 = .ok (.ireturn, 1) := by decide +kernel
theorem dX5_undo_28 : decode cX5_undo 28 = .ok (.aload_n 0, 1) := by decide +kernel
theorem dX5_undo_29 : decode cX5_undo 29 = .ok (.getfield 19, 3) := by decide +kernel
theorem dX5_undo_32 : decode cX5_undo 32 = .ok (.iload_n 1, 1) := by decide +kernel
theorem dX5_undo_33 : decode cX5_undo 33 = .ok (.aload_n 0, 1) := by decide +kernel
theorem dX5_undo_34 : decode cX5_undo 34 = .ok (.getfield 10, 3) := by decide +kernel
theorem dX5_undo_37 : decode cX5_undo 37 = .ok (.invokevirtual 206, 3) := by decide +kernel
theorem dX5_undo_40 : decode cX5_undo 40 = .ok (.aload_n 0, 1) := by decide +kernel
theorem dX5_undo_41 : decode cX5_undo 41 = .ok (.getfield 19, 3) := by decide +kernel
theorem dX5_undo_44 : decode cX5_undo 44 = .ok (.getfield 96, 3) := by decide +kernel
theorem dX5_undo_47 : decode cX5_undo 47 = .ok (.ireturn, 1) := by decide +kernel
set_option maxRecDepth 20000 in
theorem ggX5_would_X3_hasHeads : GoodIn wsX5_would wsX3_hasHeads := goodIn_r _ [8, 9, 10, 11, 7, 12, 13, 14, 128, 129, 130, 131, 132, 133, 134, 135, 136, 137, 138, 139, 140, 141, 142] (by decide +kernel) (by decide +kernel)
set_option maxRecDepth 20000 in
theorem gX5_would_X3_hasHeads : GoodIn wsX5_would (wsV RX5 187 RX3 yX3_hasHeads wsX3_hasHeads) := goodIn_app (goodIn_of _ (by decide +kernel)) ggX5_would_X3_hasHeads
set_option maxRecDepth 20000 in
theorem ggX5_would_X3_save : GoodIn wsX5_would wsX3_save := goodIn_r _ [18, 14, 13, 19, 20, 21, 22, 23, 24, 25, 26, 27, 28, 29, 30, 31, 32, 33, 7, 34, 35, 36, 37, 38, 128, 129, 130, 131, 132, 133, 134, 135, 136, 137, 138, 139, 140, 141, 142] (by decide +kernel) (by decide +kernel)
set_option maxRecDepth 20000 in
theorem gX5_would_X3_save : GoodIn wsX5_would (wsV RX5 210 RX3 yX3_save wsX3_save) := goodIn_app (goodIn_of _ (by decide +kernel)) ggX5_would_X3_save
set_option maxRecDepth 20000 in
theorem ggX5_would_X3_pass : GoodIn wsX5_would wsX3_pass := goodIn_r _ [42, 14, 19, 43, 44, 45, 7, 46, 26, 9, 10, 11, 12, 13, 47, 48, 49, 50, 22, 24, 25, 23, 51, 52, 53, 54, 55, 56, 57, 58, 28, 59, 60, 61, 62, 63, 64, 65, 66, 67, 68, 69, 70, 29, 71, 72, 73, 74, 75, 76, 77, 78, 79, 80, 81, 82, 83, 84, 85, 86, 87, 88, 89, 90, 30, 91, 92, 93, 94, 95, 96, 97, 98, 27, 99, 100, 101, 102, 103, 104, 105, 106, 107, 108, 109, 110, 128, 129, 130, 131, 132, 133, 134, 135, 136, 137, 138, 139, 140, 141, 142] (by decide +kernel) (by decide +kernel)
set_option maxRecDepth 20000 in
theorem gX5_would_X3_pass : GoodIn wsX5_would (wsV RX5 190 RX3 yX3_pass wsX3_pass) := goodIn_app (goodIn_of _ (by decide +kernel)) ggX5_would_X3_pass
set_option maxRecDepth 20000 in
theorem ggX5_would_X3_called : GoodIn wsX5_would wsX3_called := goodIn_r _ [114, 14, 29, 128, 129, 130, 131, 132, 133, 134, 135, 136, 137, 138, 139, 140, 141, 142] (by decide +kernel) (by decide +kernel)
set_option maxRecDepth 20000 in
theorem gX5_would_X3_called : GoodIn wsX5_would (wsV RX5 67 RX3 yX3_called wsX3_called) := goodIn_app (goodIn_of _ (by decide +kernel)) ggX5_would_X3_called
set_option maxRecDepth 20000 in
theorem ggX5_would_X3_load : GoodIn wsX5_would wsX3_load := goodIn_r _ [118, 14, 13, 19, 20, 21, 22, 23, 24, 25, 26, 27, 28, 29, 30, 31, 119, 120, 7, 121, 35, 36, 37, 38, 128, 129, 130, 131, 132, 133, 134, 135, 136, 137, 138, 139, 140, 141, 142] (by decide +kernel) (by decide +kernel)
set_option maxRecDepth 20000 in
theorem gX5_would_X3_load : GoodIn wsX5_would (wsV RX5 214 RX3 yX3_load wsX3_load) := goodIn_app (goodIn_of _ (by decide +kernel)) ggX5_would_X3_load
theorem dX5_would_0 : decode cX5_would 0 = .ok (.aload_n 0, 1) := by decide +kernel
theorem dX5_would_1 : decode cX5_would 1 = .ok (.getfield 10, 3) := by decide +kernel
theorem dX5_would_4 : decode cX5_would 4 = .ok (.iload_n 1, 1) := by decide +kernel
theorem dX5_would_5 : decode cX5_would 5 = .ok (.invokevirtual 187, 3) := by decide +kernel
theorem dX5_would_8 : decode cX5_would 8 = .ok (.ifCond .ne 6, 3) := by decide +kernel
theorem dX5_would_11 : decode cX5_would 11 = .ok (.ldc 102, 2) := by decide +kernel
theorem dX5_would_13 : decode cX5_would 13 = .ok (.ireturn, 1) := by decide +kernel
theorem dX5_would_14 : decode cX5_would 14 = .ok (.aload_n 0, 1) := by decide +kernel
theorem dX5_would_15 : decode cX5_would 15 = .ok (.getfield 10, 3) := by decide +kernel
theorem dX5_would_18 : decode cX5_would 18 = .ok (.aload_n 0, 1) := by decide +kernel
theorem dX5_would_19 : decode cX5_would 19 = .ok (.getfield 44, 3) := by decide +kernel
theorem dX5_would_22 : decode cX5_would 22 = .ok (.invokevirtual 210, 3) := by decide +kernel
theorem dX5_would_25 : decode cX5_would 25 = .ok (.aload_n 0, 1) := by decide +kernel
theorem dX5_would_26 : decode cX5_would 26 = .ok (.getfield 10, 3) := by decide +kernel
theorem dX5_would_29 : decode cX5_would 29 = .ok (.iload_n 1, 1) := by decide +kernel
theorem dX5_would_30 : decode cX5_would 30 = .ok (.invokevirtual 190, 3) := by decide +kernel
theorem dX5_would_33 : decode cX5_would 33 = .ok (.aload_n 0, 1) := by decide +kernel
theorem dX5_would_34 : decode cX5_would 34 = .ok (.getfield 10, 3) := by decide +kernel
theorem dX5_would_37 : decode cX5_would 37 = .ok (.iconst 0, 1) := by decide +kernel
theorem dX5_would_38 : decode cX5_would 38 = .ok (.invokevirtual 67, 3) := by decide +kernel
theorem dX5_would_41 : decode cX5_would 41 = .ok (.istore_n 2, 1) := by decide +kernel
theorem dX5_would_42 : decode cX5_would 42 = .ok (.aload_n 0, 1) := by decide +kernel
theorem dX5_would_43 : decode cX5_would 43 = .ok (.getfield 10, 3) := by decide +kernel
theorem dX5_would_46 : decode cX5_would 46 = .ok (.aload_n 0, 1) := by decide +kernel
theorem dX5_would_47 : decode cX5_would 47 = .ok (.getfield 44, 3) := by decide +kernel
theorem dX5_would_50 : decode cX5_would 50 = .ok (.invokevirtual 214, 3) := by decide +kernel
theorem dX5_would_53 : decode cX5_would 53 = .ok (.iload_n 2, 1) := by decide +kernel
theorem dX5_would_54 : decode cX5_would 54 = .ok (.ireturn, 1) := by decide +kernel
set_option maxRecDepth 20000 in
theorem ggX5_write_X3_hasSection : GoodIn wsX5_write wsX3_hasSection := goodIn_r _ [11, 12, 30, 31, 32, 33, 34, 35, 36, 37, 38, 39, 40, 41, 42, 43, 44] (by decide +kernel) (by decide +kernel)
set_option maxRecDepth 20000 in
theorem gX5_write_X3_hasSection : GoodIn wsX5_write (wsV RX5 98 RX3 yX3_hasSection wsX3_hasSection) := goodIn_app (goodIn_of _ (by decide +kernel)) ggX5_write_X3_hasSection
set_option maxRecDepth 20000 in
theorem ggX5_write_X0_add : GoodIn wsX5_write wsX0_add := goodIn_r _ [17, 18, 19, 20, 27, 28, 29] (by decide +kernel) (by decide +kernel)
set_option maxRecDepth 20000 in
theorem gX5_write_X0_add : GoodIn wsX5_write (wsV RX5 218 RX0 yX0_add wsX0_add) := goodIn_app (goodIn_of _ (by decide +kernel)) ggX5_write_X0_add
theorem dX5_write_0 : decode cX5_write 0 = .ok (.aload_n 0, 1) := by decide +kernel
theorem dX5_write_1 : decode cX5_write 1 = .ok (.getfield 10, 3) := by decide +kernel
theorem dX5_write_4 : decode cX5_write 4 = .ok (.iload_n 1, 1) := by decide +kernel
theorem dX5_write_5 : decode cX5_write 5 = .ok (.invokevirtual 98, 3) := by decide +kernel
theorem dX5_write_8 : decode cX5_write 8 = .ok (.ifCond .ne 6, 3) := by decide +kernel
theorem dX5_write_11 : decode cX5_write 11 = .ok (.ldc 102, 2) := by decide +kernel
theorem dX5_write_13 : decode cX5_write 13 = .ok (.ireturn, 1) := by decide +kernel
theorem dX5_write_14 : decode cX5_write 14 = .ok (.iload_n 2, 1) := by decide +kernel
theorem dX5_write_15 : decode cX5_write 15 = .ok (.ifCond .lt 8, 3) := by decide +kernel
theorem dX5_write_18 : decode cX5_write 18 = .ok (.iload_n 2, 1) := by decide +kernel
theorem dX5_write_19 : decode cX5_write 19 = .ok (.iconst 3, 1) := by decide +kernel
theorem dX5_write_20 : decode cX5_write 20 = .ok (.if_icmp .le 6, 3) := by decide +kernel
theorem dX5_write_23 : decode cX5_write 23 = .ok (.ldc 97, 2) := by decide +kernel
theorem dX5_write_25 : decode cX5_write 25 = .ok (.ireturn, 1) := by decide +kernel
theorem dX5_write_26 : decode cX5_write 26 = .ok (.aload_n 0, 1) := by decide +kernel
theorem dX5_write_27 : decode cX5_write 27 = .ok (.getfield 26, 3) := by decide +kernel
theorem dX5_write_30 : decode cX5_write 30 = .ok (.getfield 89, 3) := by decide +kernel
theorem dX5_write_33 : decode cX5_write 33 = .ok (.bipush 20, 2) := by decide +kernel
theorem dX5_write_35 : decode cX5_write 35 = .ok (.if_icmp .lt 6, 3) := by decide +kernel
theorem dX5_write_38 : decode cX5_write 38 = .ok (.ldc 217, 2) := by decide +kernel
theorem dX5_write_40 : decode cX5_write 40 = .ok (.ireturn, 1) := by decide +kernel
theorem dX5_write_41 : decode cX5_write 41 = .ok (.aload_n 0, 1) := by decide +kernel
theorem dX5_write_42 : decode cX5_write 42 = .ok (.getfield 26, 3) := by decide +kernel
theorem dX5_write_45 : decode cX5_write 45 = .ok (.iload_n 1, 1) := by decide +kernel
theorem dX5_write_46 : decode cX5_write 46 = .ok (.iload_n 2, 1) := by decide +kernel
theorem dX5_write_47 : decode cX5_write 47 = .ok (.invokevirtual 218, 3) := by decide +kernel
theorem dX5_write_50 : decode cX5_write 50 = .ok (.aload_n 0, 1) := by decide +kernel
theorem dX5_write_51 : decode cX5_write 51 = .ok (.getfield 26, 3) := by decide +kernel
theorem dX5_write_54 : decode cX5_write 54 = .ok (.getfield 89, 3) := by decide +kernel
theorem dX5_write_57 : decode cX5_write 57 = .ok (.ireturn, 1) := by decide +kernel
theorem dX5_tear_0 : decode cX5_tear 0 = .ok (.aload_n 0, 1) := by decide +kernel
theorem dX5_tear_1 : decode cX5_tear 1 = .ok (.getfield 26, 3) := by decide +kernel
theorem dX5_tear_4 : decode cX5_tear 4 = .ok (.getfield 89, 3) := by decide +kernel
theorem dX5_tear_7 : decode cX5_tear 7 = .ok (.istore_n 1, 1) := by decide +kernel
theorem dX5_tear_8 : decode cX5_tear 8 = .ok (.aload_n 0, 1) := by decide +kernel
theorem dX5_tear_9 : decode cX5_tear 9 = .ok (.getfield 26, 3) := by decide +kernel
theorem dX5_tear_12 : decode cX5_tear 12 = .ok (.iconst 0, 1) := by decide +kernel
theorem dX5_tear_13 : decode cX5_tear 13 = .ok (.putfield 89, 3) := by decide +kernel
theorem dX5_tear_16 : decode cX5_tear 16 = .ok (.iload_n 1, 1) := by decide +kernel
theorem dX5_tear_17 : decode cX5_tear 17 = .ok (.ireturn, 1) := by decide +kernel
theorem dX5_seed_0 : decode cX5_seed 0 = .ok (.iload_n 1, 1) := by decide +kernel
theorem dX5_seed_1 : decode cX5_seed 1 = .ok (.ifCond .ge 6, 3) := by decide +kernel
theorem dX5_seed_4 : decode cX5_seed 4 = .ok (.ldc 97, 2) := by decide +kernel
theorem dX5_seed_6 : decode cX5_seed 6 = .ok (.ireturn, 1) := by decide +kernel
theorem dX5_seed_7 : decode cX5_seed 7 = .ok (.aload_n 0, 1) := by decide +kernel
theorem dX5_seed_8 : decode cX5_seed 8 = .ok (.getfield 33, 3) := by decide +kernel
theorem dX5_seed_11 : decode cX5_seed 11 = .ok (.getfield 221, 3) := by decide +kernel
theorem dX5_seed_14 : decode cX5_seed 14 = .ok (.istore_n 2, 1) := by decide +kernel
theorem dX5_seed_15 : decode cX5_seed 15 = .ok (.aload_n 0, 1) := by decide +kernel
theorem dX5_seed_16 : decode cX5_seed 16 = .ok (.getfield 33, 3) := by decide +kernel
theorem dX5_seed_19 : decode cX5_seed 19 = .ok (.iload_n 1, 1) := by decide +kernel
theorem dX5_seed_20 : decode cX5_seed 20 = .ok (.putfield 221, 3) := by decide +kernel
theorem dX5_seed_23 : decode cX5_seed 23 = .ok (.iload_n 2, 1) := by decide +kernel
theorem dX5_seed_24 : decode cX5_seed 24 = .ok (.ireturn, 1) := by decide +kernel
set_option maxRecDepth 20000 in
theorem ggX5_keep_X2_hasPlace : GoodIn wsX5_keep wsX2_hasPlace := goodIn_r _ [11] (by decide +kernel) (by decide +kernel)
set_option maxRecDepth 20000 in
theorem gX5_keep_X2_hasPlace : GoodIn wsX5_keep (wsV RX5 224 RX2 yX2_hasPlace wsX2_hasPlace) := goodIn_app (goodIn_of _ (by decide +kernel)) ggX5_keep_X2_hasPlace
set_option maxRecDepth 20000 in
theorem ggX5_keep_X2_take : GoodIn wsX5_keep wsX2_take := goodIn_r _ [15, 16, 17, 18, 19, 20, 21, 22, 23, 24, 25, 26, 27, 28, 29, 30, 31, 32, 33, 34, 35, 36, 37, 38, 39, 40, 41, 42, 43, 44, 45, 46, 56, 57, 58, 59, 60, 61, 62, 63, 64, 65, 66, 67, 68, 69, 70, 71, 72, 73, 74] (by decide +kernel) (by decide +kernel)
set_option maxRecDepth 20000 in
theorem gX5_keep_X2_take : GoodIn wsX5_keep (wsV RX5 227 RX2 yX2_take wsX2_take) := goodIn_app (goodIn_of _ (by decide +kernel)) ggX5_keep_X2_take
theorem dX5_keep_0 : decode cX5_keep 0 = .ok (.aload_n 0, 1) := by decide +kernel
theorem dX5_keep_1 : decode cX5_keep 1 = .ok (.getfield 40, 3) := by decide +kernel
theorem dX5_keep_4 : decode cX5_keep 4 = .ok (.iload_n 1, 1) := by decide +kernel
theorem dX5_keep_5 : decode cX5_keep 5 = .ok (.invokevirtual 224, 3) := by decide +kernel
theorem dX5_keep_8 : decode cX5_keep 8 = .ok (.ifCond .ne 6, 3) := by decide +kernel
theorem dX5_keep_11 : decode cX5_keep 11 = .ok (.ldc 102, 2) := by decide +kernel
theorem dX5_keep_13 : decode cX5_keep 13 = .ok (.ireturn, 1) := by decide +kernel
theorem dX5_keep_14 : decode cX5_keep 14 = .ok (.aload_n 0, 1) := by decide +kernel
theorem dX5_keep_15 : decode cX5_keep 15 = .ok (.getfield 40, 3) := by decide +kernel
theorem dX5_keep_18 : decode cX5_keep 18 = .ok (.iload_n 1, 1) := by decide +kernel
theorem dX5_keep_19 : decode cX5_keep 19 = .ok (.aload_n 0, 1) := by decide +kernel
theorem dX5_keep_20 : decode cX5_keep 20 = .ok (.getfield 10, 3) := by decide +kernel
theorem dX5_keep_23 : decode cX5_keep 23 = .ok (.aload_n 0, 1) := by decide +kernel
theorem dX5_keep_24 : decode cX5_keep 24 = .ok (.getfield 33, 3) := by decide +kernel
theorem dX5_keep_27 : decode cX5_keep 27 = .ok (.invokevirtual 227, 3) := by decide +kernel
theorem dX5_keep_30 : decode cX5_keep 30 = .ok (.aload_n 0, 1) := by decide +kernel
theorem dX5_keep_31 : decode cX5_keep 31 = .ok (.getfield 19, 3) := by decide +kernel
theorem dX5_keep_34 : decode cX5_keep 34 = .ok (.iconst 0, 1) := by decide +kernel
theorem dX5_keep_35 : decode cX5_keep 35 = .ok (.putfield 96, 3) := by decide +kernel
theorem dX5_keep_38 : decode cX5_keep 38 = .ok (.iconst 1, 1) := by decide +kernel
theorem dX5_keep_39 : decode cX5_keep 39 = .ok (.ireturn, 1) := by decide +kernel
set_option maxRecDepth 20000 in
theorem ggX5_goBack_X2_hasPlace : GoodIn wsX5_goBack wsX2_hasPlace := goodIn_r _ [13] (by decide +kernel) (by decide +kernel)
set_option maxRecDepth 20000 in
theorem gX5_goBack_X2_hasPlace : GoodIn wsX5_goBack (wsV RX5 224 RX2 yX2_hasPlace wsX2_hasPlace) := goodIn_app (goodIn_of _ (by decide +kernel)) ggX5_goBack_X2_hasPlace
set_option maxRecDepth 20000 in
theorem ggX5_goBack_X2_giveBack : GoodIn wsX5_goBack wsX2_giveBack := goodIn_r _ [17, 18, 19, 20, 21, 22, 23, 24, 25, 26, 27, 28, 29, 30, 31, 32, 33, 34, 35, 36, 37, 38, 39, 40, 41, 42, 43, 44, 45, 46, 47, 54, 55, 56, 60, 61, 62, 63, 64, 65, 66, 67, 68, 69, 70, 71, 72, 73, 74, 75] (by decide +kernel) (by decide +kernel)
set_option maxRecDepth 20000 in
theorem gX5_goBack_X2_giveBack : GoodIn wsX5_goBack (wsV RX5 235 RX2 yX2_giveBack wsX2_giveBack) := goodIn_app (goodIn_of _ (by decide +kernel)) ggX5_goBack_X2_giveBack
theorem dX5_goBack_0 : decode cX5_goBack 0 = .ok (.aload_n 0, 1) := by decide +kernel
theorem dX5_goBack_1 : decode cX5_goBack 1 = .ok (.getfield 40, 3) := by decide +kernel
theorem dX5_goBack_4 : decode cX5_goBack 4 = .ok (.iload_n 1, 1) := by decide +kernel
theorem dX5_goBack_5 : decode cX5_goBack 5 = .ok (.invokevirtual 224, 3) := by decide +kernel
theorem dX5_goBack_8 : decode cX5_goBack 8 = .ok (.ifCond .ne 6, 3) := by decide +kernel
theorem dX5_goBack_11 : decode cX5_goBack 11 = .ok (.ldc 102, 2) := by decide +kernel
theorem dX5_goBack_13 : decode cX5_goBack 13 = .ok (.ireturn, 1) := by decide +kernel
theorem dX5_goBack_14 : decode cX5_goBack 14 = .ok (.aload_n 0, 1) := by decide +kernel
theorem dX5_goBack_15 : decode cX5_goBack 15 = .ok (.getfield 40, 3) := by decide +kernel
theorem dX5_goBack_18 : decode cX5_goBack 18 = .ok (.getfield 231, 3) := by decide +kernel
theorem dX5_goBack_21 : decode cX5_goBack 21 = .ok (.iload_n 1, 1) := by decide +kernel
theorem dX5_goBack_22 : decode cX5_goBack 22 = .ok (.baload, 1) := by decide +kernel
theorem dX5_goBack_23 : decode cX5_goBack 23 = .ok (.ifCond .ne 6, 3) := by decide +kernel
theorem dX5_goBack_26 : decode cX5_goBack 26 = .ok (.ldc 167, 2) := by decide +kernel
theorem dX5_goBack_28 : decode cX5_goBack 28 = .ok (.ireturn, 1) := by decide +kernel
theorem dX5_goBack_29 : decode cX5_goBack 29 = .ok (.aload_n 0, 1) := by decide +kernel
theorem dX5_goBack_30 : decode cX5_goBack 30 = .ok (.getfield 40, 3) := by decide +kernel
theorem dX5_goBack_33 : decode cX5_goBack 33 = .ok (.iload_n 1, 1) := by decide +kernel
theorem dX5_goBack_34 : decode cX5_goBack 34 = .ok (.aload_n 0, 1) := by decide +kernel
theorem dX5_goBack_35 : decode cX5_goBack 35 = .ok (.getfield 10, 3) := by decide +kernel
theorem dX5_goBack_38 : decode cX5_goBack 38 = .ok (.aload_n 0, 1) := by decide +kernel
theorem dX5_goBack_39 : decode cX5_goBack 39 = .ok (.getfield 33, 3) := by decide +kernel
theorem dX5_goBack_42 : decode cX5_goBack 42 = .ok (.invokevirtual 235, 3) := by decide +kernel
theorem dX5_goBack_45 : decode cX5_goBack 45 = .ok (.aload_n 0, 1) := by decide +kernel
theorem dX5_goBack_46 : decode cX5_goBack 46 = .ok (.getfield 19, 3) := by decide +kernel
theorem dX5_goBack_49 : decode cX5_goBack 49 = .ok (.iconst 0, 1) := by decide +kernel
theorem dX5_goBack_50 : decode cX5_goBack 50 = .ok (.putfield 96, 3) := by decide +kernel
theorem dX5_goBack_53 : decode cX5_goBack 53 = .ok (.iconst 1, 1) := by decide +kernel
theorem dX5_goBack_54 : decode cX5_goBack 54 = .ok (.ireturn, 1) := by decide +kernel
end
section
theorem dX6_init_0 : decode cX6_init 0 = .ok (.aload_n 0, 1) := by decide +kernel
theorem dX6_init_1 : decode cX6_init 1 = .ok (.invokespecial 1, 3) := by decide +kernel
theorem dX6_init_4 : decode cX6_init 4 = .ok (.aload_n 0, 1) := by decide +kernel
theorem dX6_init_5 : decode cX6_init 5 = .ok (.sipush 1680, 3) := by decide +kernel
theorem dX6_init_8 : decode cX6_init 8 = .ok (.newarray .int, 2) := by decide +kernel
theorem dX6_init_10 : decode cX6_init 10 = .ok (.putfield 7, 3) := by decide +kernel
theorem dX6_init_13 : decode cX6_init 13 = .ok (.aload_n 0, 1) := by decide +kernel
theorem dX6_init_14 : decode cX6_init 14 = .ok (.bipush 20, 2) := by decide +kernel
theorem dX6_init_16 : decode cX6_init 16 = .ok (.newarray .int, 2) := by decide +kernel
theorem dX6_init_18 : decode cX6_init 18 = .ok (.putfield 13, 3) := by decide +kernel
theorem dX6_init_21 : decode cX6_init 21 = .ok (.aload_n 0, 1) := by decide +kernel
theorem dX6_init_22 : decode cX6_init 22 = .ok (.bipush 20, 2) := by decide +kernel
theorem dX6_init_24 : decode cX6_init 24 = .ok (.newarray .int, 2) := by decide +kernel
theorem dX6_init_26 : decode cX6_init 26 = .ok (.putfield 16, 3) := by decide +kernel
theorem dX6_init_29 : decode cX6_init 29 = .ok (.aload_n 0, 1) := by decide +kernel
theorem dX6_init_30 : decode cX6_init 30 = .ok (.getfield 7, 3) := by decide +kernel
theorem dX6_init_33 : decode cX6_init 33 = .ok (.iconst 0, 1) := by decide +kernel
theorem dX6_init_34 : decode cX6_init 34 = .ok (.iconst 3, 1) := by decide +kernel
theorem dX6_init_35 : decode cX6_init 35 = .ok (.iastore, 1) := by decide +kernel
theorem dX6_init_36 : decode cX6_init 36 = .ok (.return_, 1) := by decide +kernel
theorem dX6_in_0 : decode cX6_in 0 = .ok (.iload_n 0, 1) := by decide +kernel
theorem dX6_in_1 : decode cX6_in 1 = .ok (.iload_n 1, 1) := by decide +kernel
theorem dX6_in_2 : decode cX6_in 2 = .ok (.if_icmp .lt 12, 3) := by decide +kernel
theorem dX6_in_5 : decode cX6_in 5 = .ok (.iload_n 0, 1) := by decide +kernel
theorem dX6_in_6 : decode cX6_in 6 = .ok (.iload_n 2, 1) := by decide +kernel
theorem dX6_in_7 : decode cX6_in 7 = .ok (.if_icmp .gt 7, 3) := by decide +kernel
theorem dX6_in_10 : decode cX6_in 10 = .ok (.iconst 1, 1) := by decide +kernel
theorem dX6_in_11 : decode cX6_in 11 = .ok (.goto 4, 3) := by decide +kernel
theorem dX6_in_14 : decode cX6_in 14 = .ok (.iconst 0, 1) := by decide +kernel
theorem dX6_in_15 : decode cX6_in 15 = .ok (.ireturn, 1) := by decide +kernel
theorem dX6_has_0 : decode cX6_has 0 = .ok (.iload_n 0, 1) := by decide +kernel
theorem dX6_has_1 : decode cX6_has 1 = .ok (.iload_n 1, 1) := by decide +kernel
theorem dX6_has_2 : decode cX6_has 2 = .ok (.ishr, 1) := by decide +kernel
theorem dX6_has_3 : decode cX6_has 3 = .ok (.iconst 1, 1) := by decide +kernel
theorem dX6_has_4 : decode cX6_has 4 = .ok (.iand, 1) := by decide +kernel
theorem dX6_has_5 : decode cX6_has 5 = .ok (.iconst 1, 1) := by decide +kernel
theorem dX6_has_6 : decode cX6_has 6 = .ok (.if_icmp .ne 7, 3) := by decide +kernel
theorem dX6_has_9 : decode cX6_has 9 = .ok (.iconst 1, 1) := by decide +kernel
theorem dX6_has_10 : decode cX6_has 10 = .ok (.goto 4, 3) := by decide +kernel
theorem dX6_has_13 : decode cX6_has 13 = .ok (.iconst 0, 1) := by decide +kernel
theorem dX6_has_14 : decode cX6_has 14 = .ok (.ireturn, 1) := by decide +kernel
theorem dX6_copyRow_0 : decode cX6_copyRow 0 = .ok (.iconst 0, 1) := by decide +kernel
theorem dX6_copyRow_1 : decode cX6_copyRow 1 = .ok (.istore_n 3, 1) := by decide +kernel
theorem dX6_copyRow_2 : decode cX6_copyRow 2 = .ok (.iload_n 3, 1) := by decide +kernel
theorem dX6_copyRow_3 : decode cX6_copyRow 3 = .ok (.bipush 84, 2) := by decide +kernel
theorem dX6_copyRow_5 : decode cX6_copyRow 5 = .ok (.if_icmp .ge 25, 3) := by decide +kernel
theorem dX6_copyRow_8 : decode cX6_copyRow 8 = .ok (.aload_n 0, 1) := by decide +kernel
theorem dX6_copyRow_9 : decode cX6_copyRow 9 = .ok (.getfield 7, 3) := by decide +kernel
theorem dX6_copyRow_12 : decode cX6_copyRow 12 = .ok (.iload_n 2, 1) := by decide +kernel
theorem dX6_copyRow_13 : decode cX6_copyRow 13 = .ok (.iload_n 3, 1) := by decide +kernel
theorem dX6_copyRow_14 : decode cX6_copyRow 14 = .ok (.iadd, 1) := by decide +kernel
theorem dX6_copyRow_15 : decode cX6_copyRow 15 = .ok (.aload_n 0, 1) := by decide +kernel
theorem dX6_copyRow_16 : decode cX6_copyRow 16 = .ok (.getfield 7, 3) := by decide +kernel
theorem dX6_copyRow_19 : decode cX6_copyRow 19 = .ok (.iload_n 1, 1) := by decide +kernel
theorem dX6_copyRow_20 : decode cX6_copyRow 20 = .ok (.iload_n 3, 1) := by decide +kernel
theorem dX6_copyRow_21 : decode cX6_copyRow 21 = .ok (.iadd, 1) := by decide +kernel
theorem dX6_copyRow_22 : decode cX6_copyRow 22 = .ok (.iaload, 1) := by decide +kernel
theorem dX6_copyRow_23 : decode cX6_copyRow 23 = .ok (.iastore, 1) := by decide +kernel
theorem dX6_copyRow_24 : decode cX6_copyRow 24 = .ok (.iinc 3 1, 3) := by decide +kernel
theorem dX6_copyRow_27 : decode cX6_copyRow 27 = .ok (.goto (-25), 3) := by decide +kernel
theorem dX6_copyRow_30 : decode cX6_copyRow 30 = .ok (.return_, 1) := by decide +kernel
theorem dX6_heads_0 : decode cX6_heads 0 = .ok (.aload_n 0, 1) := by decide +kernel
theorem dX6_heads_1 : decode cX6_heads 1 = .ok (.getfield 7, 3) := by decide +kernel
theorem dX6_heads_4 : decode cX6_heads 4 = .ok (.iconst 1, 1) := by decide +kernel
theorem dX6_heads_5 : decode cX6_heads 5 = .ok (.iaload, 1) := by decide +kernel
theorem dX6_heads_6 : decode cX6_heads 6 = .ok (.iconst 1, 1) := by decide +kernel
theorem dX6_heads_7 : decode cX6_heads 7 = .ok (.if_icmp .ne 12, 3) := by decide +kernel
theorem dX6_heads_10 : decode cX6_heads 10 = .ok (.aload_n 0, 1) := by decide +kernel
theorem dX6_heads_11 : decode cX6_heads 11 = .ok (.getfield 7, 3) := by decide +kernel
theorem dX6_heads_14 : decode cX6_heads 14 = .ok (.iconst 0, 1) := by decide +kernel
theorem dX6_heads_15 : decode cX6_heads 15 = .ok (.iaload, 1) := by decide +kernel
theorem dX6_heads_16 : decode cX6_heads 16 = .ok (.goto 11, 3) := by decide +kernel
theorem dX6_heads_19 : decode cX6_heads 19 = .ok (.aload_n 0, 1) := by decide +kernel
theorem dX6_heads_20 : decode cX6_heads 20 = .ok (.getfield 7, 3) := by decide +kernel
theorem dX6_heads_23 : decode cX6_heads 23 = .ok (.iconst 0, 1) := by decide +kernel
theorem dX6_heads_24 : decode cX6_heads 24 = .ok (.iaload, 1) := by decide +kernel
theorem dX6_heads_25 : decode cX6_heads 25 = .ok (.iconst 1, 1) := by decide +kernel
theorem dX6_heads_26 : decode cX6_heads 26 = .ok (.iadd, 1) := by decide +kernel
theorem dX6_heads_27 : decode cX6_heads 27 = .ok (.ireturn, 1) := by decide +kernel
theorem dX6_leftOf_0 : decode cX6_leftOf 0 = .ok (.iload_n 1, 1) := by decide +kernel
theorem dX6_leftOf_1 : decode cX6_leftOf 1 = .ok (.ifCond .le 9, 3) := by decide +kernel
theorem dX6_leftOf_4 : decode cX6_leftOf 4 = .ok (.iload_n 1, 1) := by decide +kernel
theorem dX6_leftOf_5 : decode cX6_leftOf 5 = .ok (.iconst 1, 1) := by decide +kernel
theorem dX6_leftOf_6 : decode cX6_leftOf 6 = .ok (.isub, 1) := by decide +kernel
theorem dX6_leftOf_7 : decode cX6_leftOf 7 = .ok (.goto 25, 3) := by decide +kernel
theorem dX6_leftOf_10 : decode cX6_leftOf 10 = .ok (.aload_n 0, 1) := by decide +kernel
theorem dX6_leftOf_11 : decode cX6_leftOf 11 = .ok (.getfield 7, 3) := by decide +kernel
theorem dX6_leftOf_14 : decode cX6_leftOf 14 = .ok (.iconst 1, 1) := by decide +kernel
theorem dX6_leftOf_15 : decode cX6_leftOf 15 = .ok (.iaload, 1) := by decide +kernel
theorem dX6_leftOf_16 : decode cX6_leftOf 16 = .ok (.iconst 1, 1) := by decide +kernel
theorem dX6_leftOf_17 : decode cX6_leftOf 17 = .ok (.if_icmp .ne 14, 3) := by decide +kernel
theorem dX6_leftOf_20 : decode cX6_leftOf 20 = .ok (.aload_n 0, 1) := by decide +kernel
theorem dX6_leftOf_21 : decode cX6_leftOf 21 = .ok (.getfield 7, 3) := by decide +kernel
theorem dX6_leftOf_24 : decode cX6_leftOf 24 = .ok (.iconst 0, 1) := by decide +kernel
theorem dX6_leftOf_25 : decode cX6_leftOf 25 = .ok (.iaload, 1) := by decide +kernel
theorem dX6_leftOf_26 : decode cX6_leftOf 26 = .ok (.iconst 1, 1) := by decide +kernel
theorem dX6_leftOf_27 : decode cX6_leftOf 27 = .ok (.isub, 1) := by decide +kernel
theorem dX6_leftOf_28 : decode cX6_leftOf 28 = .ok (.goto 4, 3) := by decide +kernel
theorem dX6_leftOf_31 : decode cX6_leftOf 31 = .ok (.iconst (-1), 1) := by decide +kernel
theorem dX6_leftOf_32 : decode cX6_leftOf 32 = .ok (.ireturn, 1) := by decide +kernel
theorem dX6_rightOf_0 : decode cX6_rightOf 0 = .ok (.iload_n 1, 1) := by decide +kernel
theorem dX6_rightOf_1 : decode cX6_rightOf 1 = .ok (.aload_n 0, 1) := by decide +kernel
theorem dX6_rightOf_2 : decode cX6_rightOf 2 = .ok (.getfield 7, 3) := by decide +kernel
theorem dX6_rightOf_5 : decode cX6_rightOf 5 = .ok (.iconst 0, 1) := by decide +kernel
theorem dX6_rightOf_6 : decode cX6_rightOf 6 = .ok (.iaload, 1) := by decide +kernel
theorem dX6_rightOf_7 : decode cX6_rightOf 7 = .ok (.if_icmp .ge 7, 3) := by decide +kernel
theorem dX6_rightOf_10 : decode cX6_rightOf 10 = .ok (.iload_n 1, 1) := by decide +kernel
theorem dX6_rightOf_11 : decode cX6_rightOf 11 = .ok (.goto 4, 3) := by decide +kernel
theorem dX6_rightOf_14 : decode cX6_rightOf 14 = .ok (.iconst (-1), 1) := by decide +kernel
theorem dX6_rightOf_15 : decode cX6_rightOf 15 = .ok (.ireturn, 1) := by decide +kernel
theorem dX6_rightHead_0 : decode cX6_rightHead 0 = .ok (.aload_n 0, 1) := by decide +kernel
theorem dX6_rightHead_1 : decode cX6_rightHead 1 = .ok (.getfield 7, 3) := by decide +kernel
theorem dX6_rightHead_4 : decode cX6_rightHead 4 = .ok (.iconst 1, 1) := by decide +kernel
theorem dX6_rightHead_5 : decode cX6_rightHead 5 = .ok (.iaload, 1) := by decide +kernel
theorem dX6_rightHead_6 : decode cX6_rightHead 6 = .ok (.iconst 1, 1) := by decide +kernel
theorem dX6_rightHead_7 : decode cX6_rightHead 7 = .ok (.if_icmp .ne 16, 3) := by decide +kernel
theorem dX6_rightHead_10 : decode cX6_rightHead 10 = .ok (.iload_n 1, 1) := by decide +kernel
theorem dX6_rightHead_11 : decode cX6_rightHead 11 = .ok (.iconst 1, 1) := by decide +kernel
theorem dX6_rightHead_12 : decode cX6_rightHead 12 = .ok (.iadd, 1) := by decide +kernel
theorem dX6_rightHead_13 : decode cX6_rightHead 13 = .ok (.aload_n 0, 1) := by decide +kernel
theorem dX6_rightHead_14 : decode cX6_rightHead 14 = .ok (.getfield 7, 3) := by decide +kernel
theorem dX6_rightHead_17 : decode cX6_rightHead 17 = .ok (.iconst 0, 1) := by decide +kernel
theorem dX6_rightHead_18 : decode cX6_rightHead 18 = .ok (.iaload, 1) := by decide +kernel
theorem dX6_rightHead_19 : decode cX6_rightHead 19 = .ok (.irem, 1) := by decide +kernel
theorem dX6_rightHead_20 : decode cX6_rightHead 20 = .ok (.goto 6, 3) := by decide +kernel
theorem dX6_rightHead_23 : decode cX6_rightHead 23 = .ok (.iload_n 1, 1) := by decide +kernel
theorem dX6_rightHead_24 : decode cX6_rightHead 24 = .ok (.iconst 1, 1) := by decide +kernel
theorem dX6_rightHead_25 : decode cX6_rightHead 25 = .ok (.iadd, 1) := by decide +kernel
theorem dX6_rightHead_26 : decode cX6_rightHead 26 = .ok (.ireturn, 1) := by decide +kernel
set_option maxRecDepth 20000 in
theorem ggX6_isSection_X6_in : GoodIn wsX6_isSection wsX6_in := goodIn_r _ [5] (by decide +kernel) (by decide +kernel)
set_option maxRecDepth 20000 in
theorem gX6_isSection_X6_in : GoodIn wsX6_isSection (va_wsS RX6 19 yX6_in wsX6_in) := goodIn_app (goodIn_of _ (by decide +kernel)) ggX6_isSection_X6_in
theorem dX6_isSection_0 : decode cX6_isSection 0 = .ok (.iload_n 1, 1) := by decide +kernel
theorem dX6_isSection_1 : decode cX6_isSection 1 = .ok (.iconst 0, 1) := by decide +kernel
theorem dX6_isSection_2 : decode cX6_isSection 2 = .ok (.aload_n 0, 1) := by decide +kernel
theorem dX6_isSection_3 : decode cX6_isSection 3 = .ok (.getfield 7, 3) := by decide +kernel
theorem dX6_isSection_6 : decode cX6_isSection 6 = .ok (.iconst 0, 1) := by decide +kernel
theorem dX6_isSection_7 : decode cX6_isSection 7 = .ok (.iaload, 1) := by decide +kernel
theorem dX6_isSection_8 : decode cX6_isSection 8 = .ok (.iconst 1, 1) := by decide +kernel
theorem dX6_isSection_9 : decode cX6_isSection 9 = .ok (.isub, 1) := by decide +kernel
theorem dX6_isSection_10 : decode cX6_isSection 10 = .ok (.invokestatic 19, 3) := by decide +kernel
theorem dX6_isSection_13 : decode cX6_isSection 13 = .ok (.ireturn, 1) := by decide +kernel
set_option maxRecDepth 20000 in
theorem ggX6_isHead_X6_heads : GoodIn wsX6_isHead wsX6_heads := goodIn_r _ [5, 6, 10, 11, 12, 13, 14, 15] (by decide +kernel) (by decide +kernel)
set_option maxRecDepth 20000 in
theorem gX6_isHead_X6_heads : GoodIn wsX6_isHead (wsV RX6 23 RX6 yX6_heads wsX6_heads) := goodIn_app (goodIn_of _ (by decide +kernel)) ggX6_isHead_X6_heads
set_option maxRecDepth 20000 in
theorem ggX6_isHead_X6_in : GoodIn wsX6_isHead wsX6_in := goodIn_r _ [9] (by decide +kernel) (by decide +kernel)
set_option maxRecDepth 20000 in
theorem gX6_isHead_X6_in : GoodIn wsX6_isHead (va_wsS RX6 19 yX6_in wsX6_in) := goodIn_app (goodIn_of _ (by decide +kernel)) ggX6_isHead_X6_in
theorem dX6_isHead_0 : decode cX6_isHead 0 = .ok (.iload_n 1, 1) := by decide +kernel
theorem dX6_isHead_1 : decode cX6_isHead 1 = .ok (.iconst 0, 1) := by decide +kernel
theorem dX6_isHead_2 : decode cX6_isHead 2 = .ok (.aload_n 0, 1) := by decide +kernel
theorem dX6_isHead_3 : decode cX6_isHead 3 = .ok (.invokevirtual 23, 3) := by decide +kernel
theorem dX6_isHead_6 : decode cX6_isHead 6 = .ok (.iconst 1, 1) := by decide +kernel
theorem dX6_isHead_7 : decode cX6_isHead 7 = .ok (.isub, 1) := by decide +kernel
theorem dX6_isHead_8 : decode cX6_isHead 8 = .ok (.invokestatic 19, 3) := by decide +kernel
theorem dX6_isHead_11 : decode cX6_isHead 11 = .ok (.ireturn, 1) := by decide +kernel
set_option maxRecDepth 20000 in
theorem ggX6_isSet_X6_heads : GoodIn wsX6_isSet wsX6_heads := goodIn_r _ [5, 6, 10, 11, 12, 13, 14, 15] (by decide +kernel) (by decide +kernel)
set_option maxRecDepth 20000 in
theorem gX6_isSet_X6_heads : GoodIn wsX6_isSet (wsV RX6 23 RX6 yX6_heads wsX6_heads) := goodIn_app (goodIn_of _ (by decide +kernel)) ggX6_isSet_X6_heads
set_option maxRecDepth 20000 in
theorem ggX6_isSet_X6_in : GoodIn wsX6_isSet wsX6_in := goodIn_r _ [9] (by decide +kernel) (by decide +kernel)
set_option maxRecDepth 20000 in
theorem gX6_isSet_X6_in : GoodIn wsX6_isSet (va_wsS RX6 19 yX6_in wsX6_in) := goodIn_app (goodIn_of _ (by decide +kernel)) ggX6_isSet_X6_in
theorem dX6_isSet_0 : decode cX6_isSet 0 = .ok (.iload_n 1, 1) := by decide +kernel
theorem dX6_isSet_1 : decode cX6_isSet 1 = .ok (.iconst 0, 1) := by decide +kernel
theorem dX6_isSet_2 : decode cX6_isSet 2 = .ok (.iconst 1, 1) := by decide +kernel
theorem dX6_isSet_3 : decode cX6_isSet 3 = .ok (.aload_n 0, 1) := by decide +kernel
theorem dX6_isSet_4 : decode cX6_isSet 4 = .ok (.invokevirtual 23, 3) := by decide +kernel
theorem dX6_isSet_7 : decode cX6_isSet 7 = .ok (.ishl, 1) := by decide +kernel
theorem dX6_isSet_8 : decode cX6_isSet 8 = .ok (.iconst 1, 1) := by decide +kernel
theorem dX6_isSet_9 : decode cX6_isSet 9 = .ok (.isub, 1) := by decide +kernel
theorem dX6_isSet_10 : decode cX6_isSet 10 = .ok (.invokestatic 19, 3) := by decide +kernel
theorem dX6_isSet_13 : decode cX6_isSet 13 = .ok (.ireturn, 1) := by decide +kernel
set_option maxRecDepth 20000 in
theorem ggX6_hear_X6_rightOf : GoodIn wsX6_hear wsX6_rightOf := goodIn_r _ [6, 1, 11, 12, 13, 14, 15, 16] (by decide +kernel) (by decide +kernel)
set_option maxRecDepth 20000 in
theorem gX6_hear_X6_rightOf : GoodIn wsX6_hear (wsV RX6 27 RX6 yX6_rightOf wsX6_rightOf) := goodIn_app (goodIn_of _ (by decide +kernel)) ggX6_hear_X6_rightOf
set_option maxRecDepth 20000 in
theorem ggX6_hear_X6_leftOf : GoodIn wsX6_hear wsX6_leftOf := goodIn_r _ [10, 1, 11, 12, 13, 14, 15, 16] (by decide +kernel) (by decide +kernel)
set_option maxRecDepth 20000 in
theorem gX6_hear_X6_leftOf : GoodIn wsX6_hear (wsV RX6 31 RX6 yX6_leftOf wsX6_leftOf) := goodIn_app (goodIn_of _ (by decide +kernel)) ggX6_hear_X6_leftOf
theorem dX6_hear_0 : decode cX6_hear 0 = .ok (.iload_n 3, 1) := by decide +kernel
theorem dX6_hear_1 : decode cX6_hear 1 = .ok (.ifCond .eq 49, 3) := by decide +kernel
theorem dX6_hear_4 : decode cX6_hear 4 = .ok (.aload_n 0, 1) := by decide +kernel
theorem dX6_hear_5 : decode cX6_hear 5 = .ok (.getfield 7, 3) := by decide +kernel
theorem dX6_hear_8 : decode cX6_hear 8 = .ok (.iload_n 1, 1) := by decide +kernel
theorem dX6_hear_9 : decode cX6_hear 9 = .ok (.bipush 55, 2) := by decide +kernel
theorem dX6_hear_11 : decode cX6_hear 11 = .ok (.iadd, 1) := by decide +kernel
theorem dX6_hear_12 : decode cX6_hear 12 = .ok (.iload_n 2, 1) := by decide +kernel
theorem dX6_hear_13 : decode cX6_hear 13 = .ok (.iadd, 1) := by decide +kernel
theorem dX6_hear_14 : decode cX6_hear 14 = .ok (.aload_n 0, 1) := by decide +kernel
theorem dX6_hear_15 : decode cX6_hear 15 = .ok (.getfield 7, 3) := by decide +kernel
theorem dX6_hear_18 : decode cX6_hear 18 = .ok (.iload_n 1, 1) := by decide +kernel
theorem dX6_hear_19 : decode cX6_hear 19 = .ok (.bipush 55, 2) := by decide +kernel
theorem dX6_hear_21 : decode cX6_hear 21 = .ok (.iadd, 1) := by decide +kernel
theorem dX6_hear_22 : decode cX6_hear 22 = .ok (.iload_n 2, 1) := by decide +kernel
theorem dX6_hear_23 : decode cX6_hear 23 = .ok (.iadd, 1) := by decide +kernel
theorem dX6_hear_24 : decode cX6_hear 24 = .ok (.iaload, 1) := by decide +kernel
theorem dX6_hear_25 : decode cX6_hear 25 = .ok (.bipush 99, 2) := by decide +kernel
theorem dX6_hear_27 : decode cX6_hear 27 = .ok (.if_icmp .ge 19, 3) := by decide +kernel
theorem dX6_hear_30 : decode cX6_hear 30 = .ok (.aload_n 0, 1) := by decide +kernel
theorem dX6_hear_31 : decode cX6_hear 31 = .ok (.getfield 7, 3) := by decide +kernel
theorem dX6_hear_34 : decode cX6_hear 34 = .ok (.iload_n 1, 1) := by decide +kernel
theorem dX6_hear_35 : decode cX6_hear 35 = .ok (.bipush 55, 2) := by decide +kernel
theorem dX6_hear_37 : decode cX6_hear 37 = .ok (.iadd, 1) := by decide +kernel
theorem dX6_hear_38 : decode cX6_hear 38 = .ok (.iload_n 2, 1) := by decide +kernel
theorem dX6_hear_39 : decode cX6_hear 39 = .ok (.iadd, 1) := by decide +kernel
theorem dX6_hear_40 : decode cX6_hear 40 = .ok (.iaload, 1) := by decide +kernel
theorem dX6_hear_41 : decode cX6_hear 41 = .ok (.iconst 1, 1) := by decide +kernel
theorem dX6_hear_42 : decode cX6_hear 42 = .ok (.iadd, 1) := by decide +kernel
theorem dX6_hear_43 : decode cX6_hear 43 = .ok (.goto 5, 3) := by decide +kernel
theorem dX6_hear_46 : decode cX6_hear 46 = .ok (.bipush 99, 2) := by decide +kernel
theorem dX6_hear_48 : decode cX6_hear 48 = .ok (.iastore, 1) := by decide +kernel
theorem dX6_hear_49 : decode cX6_hear 49 = .ok (.return_, 1) := by decide +kernel
theorem dX6_hear_50 : decode cX6_hear 50 = .ok (.aload_n 0, 1) := by decide +kernel
theorem dX6_hear_51 : decode cX6_hear 51 = .ok (.getfield 7, 3) := by decide +kernel
theorem dX6_hear_54 : decode cX6_hear 54 = .ok (.iload_n 1, 1) := by decide +kernel
theorem dX6_hear_55 : decode cX6_hear 55 = .ok (.bipush 41, 2) := by decide +kernel
theorem dX6_hear_57 : decode cX6_hear 57 = .ok (.iadd, 1) := by decide +kernel
theorem dX6_hear_58 : decode cX6_hear 58 = .ok (.iload_n 2, 1) := by decide +kernel
theorem dX6_hear_59 : decode cX6_hear 59 = .ok (.iadd, 1) := by decide +kernel
theorem dX6_hear_60 : decode cX6_hear 60 = .ok (.iaload, 1) := by decide +kernel
theorem dX6_hear_61 : decode cX6_hear 61 = .ok (.bipush 16, 2) := by decide +kernel
theorem dX6_hear_63 : decode cX6_hear 63 = .ok (.irem, 1) := by decide +kernel
theorem dX6_hear_64 : decode cX6_hear 64 = .ok (.bipush 16, 2) := by decide +kernel
theorem dX6_hear_66 : decode cX6_hear 66 = .ok (.iadd, 1) := by decide +kernel
theorem dX6_hear_67 : decode cX6_hear 67 = .ok (.bipush 16, 2) := by decide +kernel
theorem dX6_hear_69 : decode cX6_hear 69 = .ok (.irem, 1) := by decide +kernel
theorem dX6_hear_70 : decode cX6_hear 70 = .ok (.istore 4, 2) := by decide +kernel
theorem dX6_hear_72 : decode cX6_hear 72 = .ok (.iload 4, 2) := by decide +kernel
theorem dX6_hear_74 : decode cX6_hear 74 = .ok (.aload_n 0, 1) := by decide +kernel
theorem dX6_hear_75 : decode cX6_hear 75 = .ok (.getfield 7, 3) := by decide +kernel
theorem dX6_hear_78 : decode cX6_hear 78 = .ok (.iload_n 1, 1) := by decide +kernel
theorem dX6_hear_79 : decode cX6_hear 79 = .ok (.bipush 48, 2) := by decide +kernel
theorem dX6_hear_81 : decode cX6_hear 81 = .ok (.iadd, 1) := by decide +kernel
theorem dX6_hear_82 : decode cX6_hear 82 = .ok (.iload_n 2, 1) := by decide +kernel
theorem dX6_hear_83 : decode cX6_hear 83 = .ok (.iadd, 1) := by decide +kernel
theorem dX6_hear_84 : decode cX6_hear 84 = .ok (.iaload, 1) := by decide +kernel
theorem dX6_hear_85 : decode cX6_hear 85 = .ok (.isub, 1) := by decide +kernel
theorem dX6_hear_86 : decode cX6_hear 86 = .ok (.bipush 16, 2) := by decide +kernel
theorem dX6_hear_88 : decode cX6_hear 88 = .ok (.iadd, 1) := by decide +kernel
theorem dX6_hear_89 : decode cX6_hear 89 = .ok (.bipush 16, 2) := by decide +kernel
theorem dX6_hear_91 : decode cX6_hear 91 = .ok (.irem, 1) := by decide +kernel
theorem dX6_hear_92 : decode cX6_hear 92 = .ok (.istore 5, 2) := by decide +kernel
theorem dX6_hear_94 : decode cX6_hear 94 = .ok (.iload 5, 2) := by decide +kernel
theorem dX6_hear_96 : decode cX6_hear 96 = .ok (.bipush 8, 2) := by decide +kernel
theorem dX6_hear_98 : decode cX6_hear 98 = .ok (.if_icmp .le 11, 3) := by decide +kernel
theorem dX6_hear_101 : decode cX6_hear 101 = .ok (.iload 5, 2) := by decide +kernel
theorem dX6_hear_103 : decode cX6_hear 103 = .ok (.bipush 16, 2) := by decide +kernel
theorem dX6_hear_105 : decode cX6_hear 105 = .ok (.isub, 1) := by decide +kernel
theorem dX6_hear_106 : decode cX6_hear 106 = .ok (.goto 5, 3) := by decide +kernel
theorem dX6_hear_109 : decode cX6_hear 109 = .ok (.iload 5, 2) := by decide +kernel
theorem dX6_hear_111 : decode cX6_hear 111 = .ok (.istore 5, 2) := by decide +kernel
theorem dX6_hear_113 : decode cX6_hear 113 = .ok (.aload_n 0, 1) := by decide +kernel
theorem dX6_hear_114 : decode cX6_hear 114 = .ok (.iload_n 2, 1) := by decide +kernel
theorem dX6_hear_115 : decode cX6_hear 115 = .ok (.invokevirtual 27, 3) := by decide +kernel
theorem dX6_hear_118 : decode cX6_hear 118 = .ok (.iconst (-1), 1) := by decide +kernel
theorem dX6_hear_119 : decode cX6_hear 119 = .ok (.if_icmp .eq 23, 3) := by decide +kernel
theorem dX6_hear_122 : decode cX6_hear 122 = .ok (.aload_n 0, 1) := by decide +kernel
theorem dX6_hear_123 : decode cX6_hear 123 = .ok (.getfield 7, 3) := by decide +kernel
theorem dX6_hear_126 : decode cX6_hear 126 = .ok (.iload_n 1, 1) := by decide +kernel
theorem dX6_hear_127 : decode cX6_hear 127 = .ok (.bipush 9, 2) := by decide +kernel
theorem dX6_hear_129 : decode cX6_hear 129 = .ok (.iadd, 1) := by decide +kernel
theorem dX6_hear_130 : decode cX6_hear 130 = .ok (.aload_n 0, 1) := by decide +kernel
theorem dX6_hear_131 : decode cX6_hear 131 = .ok (.iload_n 2, 1) := by decide +kernel
theorem dX6_hear_132 : decode cX6_hear 132 = .ok (.invokevirtual 27, 3) := by decide +kernel
theorem dX6_hear_135 : decode cX6_hear 135 = .ok (.iadd, 1) := by decide +kernel
theorem dX6_hear_136 : decode cX6_hear 136 = .ok (.dup2, 1) := by decide +kernel
theorem dX6_hear_137 : decode cX6_hear 137 = .ok (.iaload, 1) := by decide +kernel
theorem dX6_hear_138 : decode cX6_hear 138 = .ok (.iload 5, 2) := by decide +kernel
theorem dX6_hear_140 : decode cX6_hear 140 = .ok (.iadd, 1) := by decide +kernel
theorem dX6_hear_141 : decode cX6_hear 141 = .ok (.iastore, 1) := by decide +kernel
theorem dX6_hear_142 : decode cX6_hear 142 = .ok (.aload_n 0, 1) := by decide +kernel
theorem dX6_hear_143 : decode cX6_hear 143 = .ok (.iload_n 2, 1) := by decide +kernel
theorem dX6_hear_144 : decode cX6_hear 144 = .ok (.invokevirtual 31, 3) := by decide +kernel
theorem dX6_hear_147 : decode cX6_hear 147 = .ok (.iconst (-1), 1) := by decide +kernel
theorem dX6_hear_148 : decode cX6_hear 148 = .ok (.if_icmp .eq 23, 3) := by decide +kernel
theorem dX6_hear_151 : decode cX6_hear 151 = .ok (.aload_n 0, 1) := by decide +kernel
theorem dX6_hear_152 : decode cX6_hear 152 = .ok (.getfield 7, 3) := by decide +kernel
theorem dX6_hear_155 : decode cX6_hear 155 = .ok (.iload_n 1, 1) := by decide +kernel
theorem dX6_hear_156 : decode cX6_hear 156 = .ok (.bipush 9, 2) := by decide +kernel
theorem dX6_hear_158 : decode cX6_hear 158 = .ok (.iadd, 1) := by decide +kernel
theorem dX6_hear_159 : decode cX6_hear 159 = .ok (.aload_n 0, 1) := by decide +kernel
theorem dX6_hear_160 : decode cX6_hear 160 = .ok (.iload_n 2, 1) := by decide +kernel
theorem dX6_hear_161 : decode cX6_hear 161 = .ok (.invokevirtual 31, 3) := by decide +kernel
theorem dX6_hear_164 : decode cX6_hear 164 = .ok (.iadd, 1) := by decide +kernel
theorem dX6_hear_165 : decode cX6_hear 165 = .ok (.dup2, 1) := by decide +kernel
theorem dX6_hear_166 : decode cX6_hear 166 = .ok (.iaload, 1) := by decide +kernel
theorem dX6_hear_167 : decode cX6_hear 167 = .ok (.iload 5, 2) := by decide +kernel
theorem dX6_hear_169 : decode cX6_hear 169 = .ok (.isub, 1) := by decide +kernel
theorem dX6_hear_170 : decode cX6_hear 170 = .ok (.iastore, 1) := by decide +kernel
theorem dX6_hear_171 : decode cX6_hear 171 = .ok (.aload_n 0, 1) := by decide +kernel
theorem dX6_hear_172 : decode cX6_hear 172 = .ok (.getfield 7, 3) := by decide +kernel
theorem dX6_hear_175 : decode cX6_hear 175 = .ok (.iload_n 1, 1) := by decide +kernel
theorem dX6_hear_176 : decode cX6_hear 176 = .ok (.bipush 48, 2) := by decide +kernel
theorem dX6_hear_178 : decode cX6_hear 178 = .ok (.iadd, 1) := by decide +kernel
theorem dX6_hear_179 : decode cX6_hear 179 = .ok (.iload_n 2, 1) := by decide +kernel
theorem dX6_hear_180 : decode cX6_hear 180 = .ok (.iadd, 1) := by decide +kernel
theorem dX6_hear_181 : decode cX6_hear 181 = .ok (.iload 4, 2) := by decide +kernel
theorem dX6_hear_183 : decode cX6_hear 183 = .ok (.iastore, 1) := by decide +kernel
theorem dX6_hear_184 : decode cX6_hear 184 = .ok (.aload_n 0, 1) := by decide +kernel
theorem dX6_hear_185 : decode cX6_hear 185 = .ok (.getfield 7, 3) := by decide +kernel
theorem dX6_hear_188 : decode cX6_hear 188 = .ok (.iload_n 1, 1) := by decide +kernel
theorem dX6_hear_189 : decode cX6_hear 189 = .ok (.bipush 69, 2) := by decide +kernel
theorem dX6_hear_191 : decode cX6_hear 191 = .ok (.iadd, 1) := by decide +kernel
theorem dX6_hear_192 : decode cX6_hear 192 = .ok (.iload_n 2, 1) := by decide +kernel
theorem dX6_hear_193 : decode cX6_hear 193 = .ok (.iadd, 1) := by decide +kernel
theorem dX6_hear_194 : decode cX6_hear 194 = .ok (.aload_n 0, 1) := by decide +kernel
theorem dX6_hear_195 : decode cX6_hear 195 = .ok (.getfield 7, 3) := by decide +kernel
theorem dX6_hear_198 : decode cX6_hear 198 = .ok (.iload_n 1, 1) := by decide +kernel
theorem dX6_hear_199 : decode cX6_hear 199 = .ok (.bipush 62, 2) := by decide +kernel
theorem dX6_hear_201 : decode cX6_hear 201 = .ok (.iadd, 1) := by decide +kernel
theorem dX6_hear_202 : decode cX6_hear 202 = .ok (.iload_n 2, 1) := by decide +kernel
theorem dX6_hear_203 : decode cX6_hear 203 = .ok (.iadd, 1) := by decide +kernel
theorem dX6_hear_204 : decode cX6_hear 204 = .ok (.iaload, 1) := by decide +kernel
theorem dX6_hear_205 : decode cX6_hear 205 = .ok (.iastore, 1) := by decide +kernel
theorem dX6_hear_206 : decode cX6_hear 206 = .ok (.aload_n 0, 1) := by decide +kernel
theorem dX6_hear_207 : decode cX6_hear 207 = .ok (.getfield 7, 3) := by decide +kernel
theorem dX6_hear_210 : decode cX6_hear 210 = .ok (.iload_n 1, 1) := by decide +kernel
theorem dX6_hear_211 : decode cX6_hear 211 = .ok (.bipush 55, 2) := by decide +kernel
theorem dX6_hear_213 : decode cX6_hear 213 = .ok (.iadd, 1) := by decide +kernel
theorem dX6_hear_214 : decode cX6_hear 214 = .ok (.iload_n 2, 1) := by decide +kernel
theorem dX6_hear_215 : decode cX6_hear 215 = .ok (.iadd, 1) := by decide +kernel
theorem dX6_hear_216 : decode cX6_hear 216 = .ok (.iconst 0, 1) := by decide +kernel
theorem dX6_hear_217 : decode cX6_hear 217 = .ok (.iastore, 1) := by decide +kernel
theorem dX6_hear_218 : decode cX6_hear 218 = .ok (.return_, 1) := by decide +kernel
theorem dX6_isBad_0 : decode cX6_isBad 0 = .ok (.aload_n 0, 1) := by decide +kernel
theorem dX6_isBad_1 : decode cX6_isBad 1 = .ok (.getfield 7, 3) := by decide +kernel
theorem dX6_isBad_4 : decode cX6_isBad 4 = .ok (.iload_n 1, 1) := by decide +kernel
theorem dX6_isBad_5 : decode cX6_isBad 5 = .ok (.bipush 69, 2) := by decide +kernel
theorem dX6_isBad_7 : decode cX6_isBad 7 = .ok (.iadd, 1) := by decide +kernel
theorem dX6_isBad_8 : decode cX6_isBad 8 = .ok (.iload_n 2, 1) := by decide +kernel
theorem dX6_isBad_9 : decode cX6_isBad 9 = .ok (.iadd, 1) := by decide +kernel
theorem dX6_isBad_10 : decode cX6_isBad 10 = .ok (.iaload, 1) := by decide +kernel
theorem dX6_isBad_11 : decode cX6_isBad 11 = .ok (.iconst 1, 1) := by decide +kernel
theorem dX6_isBad_12 : decode cX6_isBad 12 = .ok (.if_icmp .eq 18, 3) := by decide +kernel
theorem dX6_isBad_15 : decode cX6_isBad 15 = .ok (.aload_n 0, 1) := by decide +kernel
theorem dX6_isBad_16 : decode cX6_isBad 16 = .ok (.getfield 7, 3) := by decide +kernel
theorem dX6_isBad_19 : decode cX6_isBad 19 = .ok (.iload_n 1, 1) := by decide +kernel
theorem dX6_isBad_20 : decode cX6_isBad 20 = .ok (.bipush 55, 2) := by decide +kernel
theorem dX6_isBad_22 : decode cX6_isBad 22 = .ok (.iadd, 1) := by decide +kernel
theorem dX6_isBad_23 : decode cX6_isBad 23 = .ok (.iload_n 2, 1) := by decide +kernel
theorem dX6_isBad_24 : decode cX6_isBad 24 = .ok (.iadd, 1) := by decide +kernel
theorem dX6_isBad_25 : decode cX6_isBad 25 = .ok (.iaload, 1) := by decide +kernel
theorem dX6_isBad_26 : decode cX6_isBad 26 = .ok (.iconst 3, 1) := by decide +kernel
theorem dX6_isBad_27 : decode cX6_isBad 27 = .ok (.if_icmp .le 7, 3) := by decide +kernel
theorem dX6_isBad_30 : decode cX6_isBad 30 = .ok (.iconst 1, 1) := by decide +kernel
theorem dX6_isBad_31 : decode cX6_isBad 31 = .ok (.goto 4, 3) := by decide +kernel
theorem dX6_isBad_34 : decode cX6_isBad 34 = .ok (.iconst 0, 1) := by decide +kernel
theorem dX6_isBad_35 : decode cX6_isBad 35 = .ok (.ireturn, 1) := by decide +kernel
set_option maxRecDepth 20000 in
theorem ggX6_hasBad_X6_isBad : GoodIn wsX6_hasBad wsX6_isBad := goodIn_r _ [5, 6, 11, 12, 13, 14, 15, 16] (by decide +kernel) (by decide +kernel)
set_option maxRecDepth 20000 in
theorem gX6_hasBad_X6_isBad : GoodIn wsX6_hasBad (wsV RX6 34 RX6 yX6_isBad wsX6_isBad) := goodIn_app (goodIn_of _ (by decide +kernel)) ggX6_hasBad_X6_isBad
set_option maxRecDepth 20000 in
theorem ggX6_hasBad_X6_rightHead : GoodIn wsX6_hasBad wsX6_rightHead := goodIn_r _ [10, 6, 11, 12, 13, 14, 15, 16] (by decide +kernel) (by decide +kernel)
set_option maxRecDepth 20000 in
theorem gX6_hasBad_X6_rightHead : GoodIn wsX6_hasBad (wsV RX6 38 RX6 yX6_rightHead wsX6_rightHead) := goodIn_app (goodIn_of _ (by decide +kernel)) ggX6_hasBad_X6_rightHead
theorem dX6_hasBad_0 : decode cX6_hasBad 0 = .ok (.aload_n 0, 1) := by decide +kernel
theorem dX6_hasBad_1 : decode cX6_hasBad 1 = .ok (.iload_n 1, 1) := by decide +kernel
theorem dX6_hasBad_2 : decode cX6_hasBad 2 = .ok (.iload_n 2, 1) := by decide +kernel
theorem dX6_hasBad_3 : decode cX6_hasBad 3 = .ok (.invokevirtual 34, 3) := by decide +kernel
theorem dX6_hasBad_6 : decode cX6_hasBad 6 = .ok (.ifCond .ne 16, 3) := by decide +kernel
theorem dX6_hasBad_9 : decode cX6_hasBad 9 = .ok (.aload_n 0, 1) := by decide +kernel
theorem dX6_hasBad_10 : decode cX6_hasBad 10 = .ok (.iload_n 1, 1) := by decide +kernel
theorem dX6_hasBad_11 : decode cX6_hasBad 11 = .ok (.aload_n 0, 1) := by decide +kernel
theorem dX6_hasBad_12 : decode cX6_hasBad 12 = .ok (.iload_n 2, 1) := by decide +kernel
theorem dX6_hasBad_13 : decode cX6_hasBad 13 = .ok (.invokevirtual 38, 3) := by decide +kernel
theorem dX6_hasBad_16 : decode cX6_hasBad 16 = .ok (.invokevirtual 34, 3) := by decide +kernel
theorem dX6_hasBad_19 : decode cX6_hasBad 19 = .ok (.ifCond .eq 7, 3) := by decide +kernel
theorem dX6_hasBad_22 : decode cX6_hasBad 22 = .ok (.iconst 1, 1) := by decide +kernel
theorem dX6_hasBad_23 : decode cX6_hasBad 23 = .ok (.goto 4, 3) := by decide +kernel
theorem dX6_hasBad_26 : decode cX6_hasBad 26 = .ok (.iconst 0, 1) := by decide +kernel
theorem dX6_hasBad_27 : decode cX6_hasBad 27 = .ok (.ireturn, 1) := by decide +kernel
set_option maxRecDepth 20000 in
theorem ggX6_isTrouble_X6_hasBad : GoodIn wsX6_isTrouble wsX6_hasBad := goodIn_r _ [6, 7, 8, 9, 5, 10, 1, 11, 12, 13, 14, 15, 16, 17, 18, 19, 20] (by decide +kernel) (by decide +kernel)
set_option maxRecDepth 20000 in
theorem gX6_isTrouble_X6_hasBad : GoodIn wsX6_isTrouble (wsV RX6 41 RX6 yX6_hasBad wsX6_hasBad) := goodIn_app (goodIn_of _ (by decide +kernel)) ggX6_isTrouble_X6_hasBad
theorem dX6_isTrouble_0 : decode cX6_isTrouble 0 = .ok (.aload_n 0, 1) := by decide +kernel
theorem dX6_isTrouble_1 : decode cX6_isTrouble 1 = .ok (.getfield 7, 3) := by decide +kernel
theorem dX6_isTrouble_4 : decode cX6_isTrouble 4 = .ok (.iload_n 1, 1) := by decide +kernel
theorem dX6_isTrouble_5 : decode cX6_isTrouble 5 = .ok (.bipush 9, 2) := by decide +kernel
theorem dX6_isTrouble_7 : decode cX6_isTrouble 7 = .ok (.iadd, 1) := by decide +kernel
theorem dX6_isTrouble_8 : decode cX6_isTrouble 8 = .ok (.iload_n 2, 1) := by decide +kernel
theorem dX6_isTrouble_9 : decode cX6_isTrouble 9 = .ok (.iadd, 1) := by decide +kernel
theorem dX6_isTrouble_10 : decode cX6_isTrouble 10 = .ok (.iaload, 1) := by decide +kernel
theorem dX6_isTrouble_11 : decode cX6_isTrouble 11 = .ok (.ifCond .lt 12, 3) := by decide +kernel
theorem dX6_isTrouble_14 : decode cX6_isTrouble 14 = .ok (.aload_n 0, 1) := by decide +kernel
theorem dX6_isTrouble_15 : decode cX6_isTrouble 15 = .ok (.iload_n 1, 1) := by decide +kernel
theorem dX6_isTrouble_16 : decode cX6_isTrouble 16 = .ok (.iload_n 2, 1) := by decide +kernel
theorem dX6_isTrouble_17 : decode cX6_isTrouble 17 = .ok (.invokevirtual 41, 3) := by decide +kernel
theorem dX6_isTrouble_20 : decode cX6_isTrouble 20 = .ok (.ifCond .eq 7, 3) := by decide +kernel
theorem dX6_isTrouble_23 : decode cX6_isTrouble 23 = .ok (.iconst 1, 1) := by decide +kernel
theorem dX6_isTrouble_24 : decode cX6_isTrouble 24 = .ok (.goto 4, 3) := by decide +kernel
theorem dX6_isTrouble_27 : decode cX6_isTrouble 27 = .ok (.iconst 0, 1) := by decide +kernel
theorem dX6_isTrouble_28 : decode cX6_isTrouble 28 = .ok (.ireturn, 1) := by decide +kernel
set_option maxRecDepth 20000 in
theorem ggX6_judgeOne_X6_isTrouble : GoodIn wsX6_judgeOne wsX6_isTrouble := goodIn_r _ [6, 1, 7, 8, 9, 5, 10, 11, 12, 13, 14, 15, 16, 17, 18, 23, 24, 25, 26, 27, 28] (by decide +kernel) (by decide +kernel)
set_option maxRecDepth 20000 in
theorem gX6_judgeOne_X6_isTrouble : GoodIn wsX6_judgeOne (wsV RX6 44 RX6 yX6_isTrouble wsX6_isTrouble) := goodIn_app (goodIn_of _ (by decide +kernel)) ggX6_judgeOne_X6_isTrouble
set_option maxRecDepth 20000 in
theorem ggX6_judgeOne_X6_heal : GoodIn wsX6_judgeOne wsX6_heal := goodIn_r _ [22, 1, 23, 24, 25, 26, 27, 28] (by decide +kernel) (by decide +kernel)
set_option maxRecDepth 20000 in
theorem gX6_judgeOne_X6_heal : GoodIn wsX6_judgeOne (wsV RX6 47 RX6 yX6_heal wsX6_heal) := goodIn_app (goodIn_of _ (by decide +kernel)) ggX6_judgeOne_X6_heal
theorem dX6_judgeOne_0 : decode cX6_judgeOne 0 = .ok (.aload_n 0, 1) := by decide +kernel
theorem dX6_judgeOne_1 : decode cX6_judgeOne 1 = .ok (.getfield 7, 3) := by decide +kernel
theorem dX6_judgeOne_4 : decode cX6_judgeOne 4 = .ok (.iload_n 1, 1) := by decide +kernel
theorem dX6_judgeOne_5 : decode cX6_judgeOne 5 = .ok (.iconst 3, 1) := by decide +kernel
theorem dX6_judgeOne_6 : decode cX6_judgeOne 6 = .ok (.iadd, 1) := by decide +kernel
theorem dX6_judgeOne_7 : decode cX6_judgeOne 7 = .ok (.iload_n 2, 1) := by decide +kernel
theorem dX6_judgeOne_8 : decode cX6_judgeOne 8 = .ok (.iadd, 1) := by decide +kernel
theorem dX6_judgeOne_9 : decode cX6_judgeOne 9 = .ok (.iaload, 1) := by decide +kernel
theorem dX6_judgeOne_10 : decode cX6_judgeOne 10 = .ok (.istore_n 3, 1) := by decide +kernel
theorem dX6_judgeOne_11 : decode cX6_judgeOne 11 = .ok (.aload_n 0, 1) := by decide +kernel
theorem dX6_judgeOne_12 : decode cX6_judgeOne 12 = .ok (.getfield 7, 3) := by decide +kernel
theorem dX6_judgeOne_15 : decode cX6_judgeOne 15 = .ok (.iload_n 1, 1) := by decide +kernel
theorem dX6_judgeOne_16 : decode cX6_judgeOne 16 = .ok (.bipush 9, 2) := by decide +kernel
theorem dX6_judgeOne_18 : decode cX6_judgeOne 18 = .ok (.iadd, 1) := by decide +kernel
theorem dX6_judgeOne_19 : decode cX6_judgeOne 19 = .ok (.iload_n 2, 1) := by decide +kernel
theorem dX6_judgeOne_20 : decode cX6_judgeOne 20 = .ok (.iadd, 1) := by decide +kernel
theorem dX6_judgeOne_21 : decode cX6_judgeOne 21 = .ok (.iaload, 1) := by decide +kernel
theorem dX6_judgeOne_22 : decode cX6_judgeOne 22 = .ok (.istore 4, 2) := by decide +kernel
theorem dX6_judgeOne_24 : decode cX6_judgeOne 24 = .ok (.aload_n 0, 1) := by decide +kernel
theorem dX6_judgeOne_25 : decode cX6_judgeOne 25 = .ok (.iload_n 1, 1) := by decide +kernel
theorem dX6_judgeOne_26 : decode cX6_judgeOne 26 = .ok (.iload_n 2, 1) := by decide +kernel
theorem dX6_judgeOne_27 : decode cX6_judgeOne 27 = .ok (.invokevirtual 44, 3) := by decide +kernel
theorem dX6_judgeOne_30 : decode cX6_judgeOne 30 = .ok (.ifCond .eq 29, 3) := by decide +kernel
theorem dX6_judgeOne_33 : decode cX6_judgeOne 33 = .ok (.aload_n 0, 1) := by decide +kernel
theorem dX6_judgeOne_34 : decode cX6_judgeOne 34 = .ok (.getfield 7, 3) := by decide +kernel
theorem dX6_judgeOne_37 : decode cX6_judgeOne 37 = .ok (.iload_n 1, 1) := by decide +kernel
theorem dX6_judgeOne_38 : decode cX6_judgeOne 38 = .ok (.iconst 3, 1) := by decide +kernel
theorem dX6_judgeOne_39 : decode cX6_judgeOne 39 = .ok (.iadd, 1) := by decide +kernel
theorem dX6_judgeOne_40 : decode cX6_judgeOne 40 = .ok (.iload_n 2, 1) := by decide +kernel
theorem dX6_judgeOne_41 : decode cX6_judgeOne 41 = .ok (.iadd, 1) := by decide +kernel
theorem dX6_judgeOne_42 : decode cX6_judgeOne 42 = .ok (.iconst 2, 1) := by decide +kernel
theorem dX6_judgeOne_43 : decode cX6_judgeOne 43 = .ok (.iastore, 1) := by decide +kernel
theorem dX6_judgeOne_44 : decode cX6_judgeOne 44 = .ok (.aload_n 0, 1) := by decide +kernel
theorem dX6_judgeOne_45 : decode cX6_judgeOne 45 = .ok (.getfield 7, 3) := by decide +kernel
theorem dX6_judgeOne_48 : decode cX6_judgeOne 48 = .ok (.iload_n 1, 1) := by decide +kernel
theorem dX6_judgeOne_49 : decode cX6_judgeOne 49 = .ok (.bipush 21, 2) := by decide +kernel
theorem dX6_judgeOne_51 : decode cX6_judgeOne 51 = .ok (.iadd, 1) := by decide +kernel
theorem dX6_judgeOne_52 : decode cX6_judgeOne 52 = .ok (.iload_n 2, 1) := by decide +kernel
theorem dX6_judgeOne_53 : decode cX6_judgeOne 53 = .ok (.iadd, 1) := by decide +kernel
theorem dX6_judgeOne_54 : decode cX6_judgeOne 54 = .ok (.iconst 0, 1) := by decide +kernel
theorem dX6_judgeOne_55 : decode cX6_judgeOne 55 = .ok (.iastore, 1) := by decide +kernel
theorem dX6_judgeOne_56 : decode cX6_judgeOne 56 = .ok (.goto 81, 3) := by decide +kernel
theorem dX6_judgeOne_59 : decode cX6_judgeOne 59 = .ok (.iload_n 3, 1) := by decide +kernel
theorem dX6_judgeOne_60 : decode cX6_judgeOne 60 = .ok (.ifCond .eq 8, 3) := by decide +kernel
theorem dX6_judgeOne_63 : decode cX6_judgeOne 63 = .ok (.iload_n 3, 1) := by decide +kernel
theorem dX6_judgeOne_64 : decode cX6_judgeOne 64 = .ok (.iconst 1, 1) := by decide +kernel
theorem dX6_judgeOne_65 : decode cX6_judgeOne 65 = .ok (.if_icmp .ne 26, 3) := by decide +kernel
theorem dX6_judgeOne_68 : decode cX6_judgeOne 68 = .ok (.aload_n 0, 1) := by decide +kernel
theorem dX6_judgeOne_69 : decode cX6_judgeOne 69 = .ok (.getfield 7, 3) := by decide +kernel
theorem dX6_judgeOne_72 : decode cX6_judgeOne 72 = .ok (.iload_n 1, 1) := by decide +kernel
theorem dX6_judgeOne_73 : decode cX6_judgeOne 73 = .ok (.iconst 3, 1) := by decide +kernel
theorem dX6_judgeOne_74 : decode cX6_judgeOne 74 = .ok (.iadd, 1) := by decide +kernel
theorem dX6_judgeOne_75 : decode cX6_judgeOne 75 = .ok (.iload_n 2, 1) := by decide +kernel
theorem dX6_judgeOne_76 : decode cX6_judgeOne 76 = .ok (.iadd, 1) := by decide +kernel
theorem dX6_judgeOne_77 : decode cX6_judgeOne 77 = .ok (.iload 4, 2) := by decide +kernel
theorem dX6_judgeOne_79 : decode cX6_judgeOne 79 = .ok (.ifCond .le 7, 3) := by decide +kernel
theorem dX6_judgeOne_82 : decode cX6_judgeOne 82 = .ok (.iconst 1, 1) := by decide +kernel
theorem dX6_judgeOne_83 : decode cX6_judgeOne 83 = .ok (.goto 4, 3) := by decide +kernel
theorem dX6_judgeOne_86 : decode cX6_judgeOne 86 = .ok (.iconst 0, 1) := by decide +kernel
theorem dX6_judgeOne_87 : decode cX6_judgeOne 87 = .ok (.iastore, 1) := by decide +kernel
theorem dX6_judgeOne_88 : decode cX6_judgeOne 88 = .ok (.goto 49, 3) := by decide +kernel
theorem dX6_judgeOne_91 : decode cX6_judgeOne 91 = .ok (.iload_n 3, 1) := by decide +kernel
theorem dX6_judgeOne_92 : decode cX6_judgeOne 92 = .ok (.iconst 3, 1) := by decide +kernel
theorem dX6_judgeOne_93 : decode cX6_judgeOne 93 = .ok (.if_icmp .ne 44, 3) := by decide +kernel
theorem dX6_judgeOne_96 : decode cX6_judgeOne 96 = .ok (.iload 4, 2) := by decide +kernel
theorem dX6_judgeOne_98 : decode cX6_judgeOne 98 = .ok (.ifCond .le 18, 3) := by decide +kernel
theorem dX6_judgeOne_101 : decode cX6_judgeOne 101 = .ok (.aload_n 0, 1) := by decide +kernel
theorem dX6_judgeOne_102 : decode cX6_judgeOne 102 = .ok (.getfield 7, 3) := by decide +kernel
theorem dX6_judgeOne_105 : decode cX6_judgeOne 105 = .ok (.iload_n 1, 1) := by decide +kernel
theorem dX6_judgeOne_106 : decode cX6_judgeOne 106 = .ok (.bipush 21, 2) := by decide +kernel
theorem dX6_judgeOne_108 : decode cX6_judgeOne 108 = .ok (.iadd, 1) := by decide +kernel
theorem dX6_judgeOne_109 : decode cX6_judgeOne 109 = .ok (.iload_n 2, 1) := by decide +kernel
theorem dX6_judgeOne_110 : decode cX6_judgeOne 110 = .ok (.iadd, 1) := by decide +kernel
theorem dX6_judgeOne_111 : decode cX6_judgeOne 111 = .ok (.iconst 1, 1) := by decide +kernel
theorem dX6_judgeOne_112 : decode cX6_judgeOne 112 = .ok (.iastore, 1) := by decide +kernel
theorem dX6_judgeOne_113 : decode cX6_judgeOne 113 = .ok (.goto 24, 3) := by decide +kernel
theorem dX6_judgeOne_116 : decode cX6_judgeOne 116 = .ok (.aload_n 0, 1) := by decide +kernel
theorem dX6_judgeOne_117 : decode cX6_judgeOne 117 = .ok (.getfield 7, 3) := by decide +kernel
theorem dX6_judgeOne_120 : decode cX6_judgeOne 120 = .ok (.iload_n 1, 1) := by decide +kernel
theorem dX6_judgeOne_121 : decode cX6_judgeOne 121 = .ok (.bipush 21, 2) := by decide +kernel
theorem dX6_judgeOne_123 : decode cX6_judgeOne 123 = .ok (.iadd, 1) := by decide +kernel
theorem dX6_judgeOne_124 : decode cX6_judgeOne 124 = .ok (.iload_n 2, 1) := by decide +kernel
theorem dX6_judgeOne_125 : decode cX6_judgeOne 125 = .ok (.iadd, 1) := by decide +kernel
theorem dX6_judgeOne_126 : decode cX6_judgeOne 126 = .ok (.iaload, 1) := by decide +kernel
theorem dX6_judgeOne_127 : decode cX6_judgeOne 127 = .ok (.iconst 1, 1) := by decide +kernel
theorem dX6_judgeOne_128 : decode cX6_judgeOne 128 = .ok (.if_icmp .ne 9, 3) := by decide +kernel
theorem dX6_judgeOne_131 : decode cX6_judgeOne 131 = .ok (.aload_n 0, 1) := by decide +kernel
theorem dX6_judgeOne_132 : decode cX6_judgeOne 132 = .ok (.iload_n 1, 1) := by decide +kernel
theorem dX6_judgeOne_133 : decode cX6_judgeOne 133 = .ok (.iload_n 2, 1) := by decide +kernel
theorem dX6_judgeOne_134 : decode cX6_judgeOne 134 = .ok (.invokevirtual 47, 3) := by decide +kernel
theorem dX6_judgeOne_137 : decode cX6_judgeOne 137 = .ok (.return_, 1) := by decide +kernel
theorem dX6_heal_0 : decode cX6_heal 0 = .ok (.aload_n 0, 1) := by decide +kernel
theorem dX6_heal_1 : decode cX6_heal 1 = .ok (.getfield 7, 3) := by decide +kernel
theorem dX6_heal_4 : decode cX6_heal 4 = .ok (.iload_n 1, 1) := by decide +kernel
theorem dX6_heal_5 : decode cX6_heal 5 = .ok (.bipush 9, 2) := by decide +kernel
theorem dX6_heal_7 : decode cX6_heal 7 = .ok (.iadd, 1) := by decide +kernel
theorem dX6_heal_8 : decode cX6_heal 8 = .ok (.iload_n 2, 1) := by decide +kernel
theorem dX6_heal_9 : decode cX6_heal 9 = .ok (.iadd, 1) := by decide +kernel
theorem dX6_heal_10 : decode cX6_heal 10 = .ok (.iconst 0, 1) := by decide +kernel
theorem dX6_heal_11 : decode cX6_heal 11 = .ok (.iastore, 1) := by decide +kernel
theorem dX6_heal_12 : decode cX6_heal 12 = .ok (.aload_n 0, 1) := by decide +kernel
theorem dX6_heal_13 : decode cX6_heal 13 = .ok (.getfield 7, 3) := by decide +kernel
theorem dX6_heal_16 : decode cX6_heal 16 = .ok (.iload_n 1, 1) := by decide +kernel
theorem dX6_heal_17 : decode cX6_heal 17 = .ok (.iconst 3, 1) := by decide +kernel
theorem dX6_heal_18 : decode cX6_heal 18 = .ok (.iadd, 1) := by decide +kernel
theorem dX6_heal_19 : decode cX6_heal 19 = .ok (.iload_n 2, 1) := by decide +kernel
theorem dX6_heal_20 : decode cX6_heal 20 = .ok (.iadd, 1) := by decide +kernel
theorem dX6_heal_21 : decode cX6_heal 21 = .ok (.iconst 0, 1) := by decide +kernel
theorem dX6_heal_22 : decode cX6_heal 22 = .ok (.iastore, 1) := by decide +kernel
theorem dX6_heal_23 : decode cX6_heal 23 = .ok (.aload_n 0, 1) := by decide +kernel
theorem dX6_heal_24 : decode cX6_heal 24 = .ok (.getfield 7, 3) := by decide +kernel
theorem dX6_heal_27 : decode cX6_heal 27 = .ok (.iload_n 1, 1) := by decide +kernel
theorem dX6_heal_28 : decode cX6_heal 28 = .ok (.bipush 21, 2) := by decide +kernel
theorem dX6_heal_30 : decode cX6_heal 30 = .ok (.iadd, 1) := by decide +kernel
theorem dX6_heal_31 : decode cX6_heal 31 = .ok (.iload_n 2, 1) := by decide +kernel
theorem dX6_heal_32 : decode cX6_heal 32 = .ok (.iadd, 1) := by decide +kernel
theorem dX6_heal_33 : decode cX6_heal 33 = .ok (.iconst 0, 1) := by decide +kernel
theorem dX6_heal_34 : decode cX6_heal 34 = .ok (.iastore, 1) := by decide +kernel
theorem dX6_heal_35 : decode cX6_heal 35 = .ok (.return_, 1) := by decide +kernel
set_option maxRecDepth 20000 in
theorem ggX6_isJoint_X6_leftOf : GoodIn wsX6_isJoint wsX6_leftOf := goodIn_r _ [5, 6, 11, 12, 13, 14, 15, 16] (by decide +kernel) (by decide +kernel)
set_option maxRecDepth 20000 in
theorem gX6_isJoint_X6_leftOf : GoodIn wsX6_isJoint (wsV RX6 31 RX6 yX6_leftOf wsX6_leftOf) := goodIn_app (goodIn_of _ (by decide +kernel)) ggX6_isJoint_X6_leftOf
set_option maxRecDepth 20000 in
theorem ggX6_isJoint_X6_rightOf : GoodIn wsX6_isJoint wsX6_rightOf := goodIn_r _ [10, 6, 11, 12, 13, 14, 15, 16] (by decide +kernel) (by decide +kernel)
set_option maxRecDepth 20000 in
theorem gX6_isJoint_X6_rightOf : GoodIn wsX6_isJoint (wsV RX6 27 RX6 yX6_rightOf wsX6_rightOf) := goodIn_app (goodIn_of _ (by decide +kernel)) ggX6_isJoint_X6_rightOf
theorem dX6_isJoint_0 : decode cX6_isJoint 0 = .ok (.aload_n 0, 1) := by decide +kernel
theorem dX6_isJoint_1 : decode cX6_isJoint 1 = .ok (.iload_n 1, 1) := by decide +kernel
theorem dX6_isJoint_2 : decode cX6_isJoint 2 = .ok (.invokevirtual 31, 3) := by decide +kernel
theorem dX6_isJoint_5 : decode cX6_isJoint 5 = .ok (.iconst (-1), 1) := by decide +kernel
theorem dX6_isJoint_6 : decode cX6_isJoint 6 = .ok (.if_icmp .eq 29, 3) := by decide +kernel
theorem dX6_isJoint_9 : decode cX6_isJoint 9 = .ok (.aload_n 0, 1) := by decide +kernel
theorem dX6_isJoint_10 : decode cX6_isJoint 10 = .ok (.iload_n 1, 1) := by decide +kernel
theorem dX6_isJoint_11 : decode cX6_isJoint 11 = .ok (.invokevirtual 27, 3) := by decide +kernel
theorem dX6_isJoint_14 : decode cX6_isJoint 14 = .ok (.iconst (-1), 1) := by decide +kernel
theorem dX6_isJoint_15 : decode cX6_isJoint 15 = .ok (.if_icmp .eq 20, 3) := by decide +kernel
theorem dX6_isJoint_18 : decode cX6_isJoint 18 = .ok (.aload_n 0, 1) := by decide +kernel
theorem dX6_isJoint_19 : decode cX6_isJoint 19 = .ok (.iload_n 1, 1) := by decide +kernel
theorem dX6_isJoint_20 : decode cX6_isJoint 20 = .ok (.invokevirtual 31, 3) := by decide +kernel
theorem dX6_isJoint_23 : decode cX6_isJoint 23 = .ok (.aload_n 0, 1) := by decide +kernel
theorem dX6_isJoint_24 : decode cX6_isJoint 24 = .ok (.iload_n 1, 1) := by decide +kernel
theorem dX6_isJoint_25 : decode cX6_isJoint 25 = .ok (.invokevirtual 27, 3) := by decide +kernel
theorem dX6_isJoint_28 : decode cX6_isJoint 28 = .ok (.if_icmp .eq 7, 3) := by decide +kernel
theorem dX6_isJoint_31 : decode cX6_isJoint 31 = .ok (.iconst 1, 1) := by decide +kernel
theorem dX6_isJoint_32 : decode cX6_isJoint 32 = .ok (.goto 4, 3) := by decide +kernel
theorem dX6_isJoint_35 : decode cX6_isJoint 35 = .ok (.iconst 0, 1) := by decide +kernel
theorem dX6_isJoint_36 : decode cX6_isJoint 36 = .ok (.ireturn, 1) := by decide +kernel
set_option maxRecDepth 20000 in
theorem ggX6_sweepOver_X6_leftOf : GoodIn wsX6_sweepOver wsX6_leftOf := goodIn_r _ [6, 1, 27, 28, 29, 30, 31, 32] (by decide +kernel) (by decide +kernel)
set_option maxRecDepth 20000 in
theorem gX6_sweepOver_X6_leftOf : GoodIn wsX6_sweepOver (wsV RX6 31 RX6 yX6_leftOf wsX6_leftOf) := goodIn_app (goodIn_of _ (by decide +kernel)) ggX6_sweepOver_X6_leftOf
set_option maxRecDepth 20000 in
theorem ggX6_sweepOver_X6_rightOf : GoodIn wsX6_sweepOver wsX6_rightOf := goodIn_r _ [10, 1, 27, 28, 29, 30, 31, 32] (by decide +kernel) (by decide +kernel)
set_option maxRecDepth 20000 in
theorem gX6_sweepOver_X6_rightOf : GoodIn wsX6_sweepOver (wsV RX6 27 RX6 yX6_rightOf wsX6_rightOf) := goodIn_app (goodIn_of _ (by decide +kernel)) ggX6_sweepOver_X6_rightOf
set_option maxRecDepth 20000 in
theorem ggX6_sweepOver_X6_hasBad : GoodIn wsX6_sweepOver wsX6_hasBad := goodIn_r _ [14, 15, 16, 17, 5, 18, 1, 19, 20, 21, 22, 27, 28, 29, 30, 31, 32] (by decide +kernel) (by decide +kernel)
set_option maxRecDepth 20000 in
theorem gX6_sweepOver_X6_hasBad : GoodIn wsX6_sweepOver (wsV RX6 41 RX6 yX6_hasBad wsX6_hasBad) := goodIn_app (goodIn_of _ (by decide +kernel)) ggX6_sweepOver_X6_hasBad
set_option maxRecDepth 20000 in
theorem ggX6_sweepOver_X6_heal : GoodIn wsX6_sweepOver wsX6_heal := goodIn_r _ [26, 1, 27, 28, 29, 30, 31, 32] (by decide +kernel) (by decide +kernel)
set_option maxRecDepth 20000 in
theorem gX6_sweepOver_X6_heal : GoodIn wsX6_sweepOver (wsV RX6 47 RX6 yX6_heal wsX6_heal) := goodIn_app (goodIn_of _ (by decide +kernel)) ggX6_sweepOver_X6_heal
theorem dX6_sweepOver_0 : decode cX6_sweepOver 0 = .ok (.aload_n 0, 1) := by decide +kernel
theorem dX6_sweepOver_1 : decode cX6_sweepOver 1 = .ok (.iload_n 2, 1) := by decide +kernel
theorem dX6_sweepOver_2 : decode cX6_sweepOver 2 = .ok (.invokevirtual 31, 3) := by decide +kernel
theorem dX6_sweepOver_5 : decode cX6_sweepOver 5 = .ok (.istore_n 3, 1) := by decide +kernel
theorem dX6_sweepOver_6 : decode cX6_sweepOver 6 = .ok (.aload_n 0, 1) := by decide +kernel
theorem dX6_sweepOver_7 : decode cX6_sweepOver 7 = .ok (.iload_n 2, 1) := by decide +kernel
theorem dX6_sweepOver_8 : decode cX6_sweepOver 8 = .ok (.invokevirtual 27, 3) := by decide +kernel
theorem dX6_sweepOver_11 : decode cX6_sweepOver 11 = .ok (.istore 4, 2) := by decide +kernel
theorem dX6_sweepOver_13 : decode cX6_sweepOver 13 = .ok (.aload_n 0, 1) := by decide +kernel
theorem dX6_sweepOver_14 : decode cX6_sweepOver 14 = .ok (.getfield 7, 3) := by decide +kernel
theorem dX6_sweepOver_17 : decode cX6_sweepOver 17 = .ok (.iload_n 1, 1) := by decide +kernel
theorem dX6_sweepOver_18 : decode cX6_sweepOver 18 = .ok (.iconst 3, 1) := by decide +kernel
theorem dX6_sweepOver_19 : decode cX6_sweepOver 19 = .ok (.iadd, 1) := by decide +kernel
theorem dX6_sweepOver_20 : decode cX6_sweepOver 20 = .ok (.iload_n 3, 1) := by decide +kernel
theorem dX6_sweepOver_21 : decode cX6_sweepOver 21 = .ok (.iadd, 1) := by decide +kernel
theorem dX6_sweepOver_22 : decode cX6_sweepOver 22 = .ok (.iaload, 1) := by decide +kernel
theorem dX6_sweepOver_23 : decode cX6_sweepOver 23 = .ok (.iconst 2, 1) := by decide +kernel
theorem dX6_sweepOver_24 : decode cX6_sweepOver 24 = .ok (.if_icmp .eq 31, 3) := by decide +kernel
theorem dX6_sweepOver_27 : decode cX6_sweepOver 27 = .ok (.aload_n 0, 1) := by decide +kernel
theorem dX6_sweepOver_28 : decode cX6_sweepOver 28 = .ok (.getfield 7, 3) := by decide +kernel
theorem dX6_sweepOver_31 : decode cX6_sweepOver 31 = .ok (.iload_n 1, 1) := by decide +kernel
theorem dX6_sweepOver_32 : decode cX6_sweepOver 32 = .ok (.iconst 3, 1) := by decide +kernel
theorem dX6_sweepOver_33 : decode cX6_sweepOver 33 = .ok (.iadd, 1) := by decide +kernel
theorem dX6_sweepOver_34 : decode cX6_sweepOver 34 = .ok (.iload 4, 2) := by decide +kernel
theorem dX6_sweepOver_36 : decode cX6_sweepOver 36 = .ok (.iadd, 1) := by decide +kernel
theorem dX6_sweepOver_37 : decode cX6_sweepOver 37 = .ok (.iaload, 1) := by decide +kernel
theorem dX6_sweepOver_38 : decode cX6_sweepOver 38 = .ok (.iconst 2, 1) := by decide +kernel
theorem dX6_sweepOver_39 : decode cX6_sweepOver 39 = .ok (.if_icmp .eq 16, 3) := by decide +kernel
theorem dX6_sweepOver_42 : decode cX6_sweepOver 42 = .ok (.aload_n 0, 1) := by decide +kernel
theorem dX6_sweepOver_43 : decode cX6_sweepOver 43 = .ok (.getfield 7, 3) := by decide +kernel
theorem dX6_sweepOver_46 : decode cX6_sweepOver 46 = .ok (.iload_n 1, 1) := by decide +kernel
theorem dX6_sweepOver_47 : decode cX6_sweepOver 47 = .ok (.bipush 76, 2) := by decide +kernel
theorem dX6_sweepOver_49 : decode cX6_sweepOver 49 = .ok (.iadd, 1) := by decide +kernel
theorem dX6_sweepOver_50 : decode cX6_sweepOver 50 = .ok (.iload_n 2, 1) := by decide +kernel
theorem dX6_sweepOver_51 : decode cX6_sweepOver 51 = .ok (.iadd, 1) := by decide +kernel
theorem dX6_sweepOver_52 : decode cX6_sweepOver 52 = .ok (.iconst 0, 1) := by decide +kernel
theorem dX6_sweepOver_53 : decode cX6_sweepOver 53 = .ok (.iastore, 1) := by decide +kernel
theorem dX6_sweepOver_54 : decode cX6_sweepOver 54 = .ok (.return_, 1) := by decide +kernel
theorem dX6_sweepOver_55 : decode cX6_sweepOver 55 = .ok (.aload_n 0, 1) := by decide +kernel
theorem dX6_sweepOver_56 : decode cX6_sweepOver 56 = .ok (.getfield 7, 3) := by decide +kernel
theorem dX6_sweepOver_59 : decode cX6_sweepOver 59 = .ok (.iload_n 1, 1) := by decide +kernel
theorem dX6_sweepOver_60 : decode cX6_sweepOver 60 = .ok (.bipush 9, 2) := by decide +kernel
theorem dX6_sweepOver_62 : decode cX6_sweepOver 62 = .ok (.iadd, 1) := by decide +kernel
theorem dX6_sweepOver_63 : decode cX6_sweepOver 63 = .ok (.iload_n 3, 1) := by decide +kernel
theorem dX6_sweepOver_64 : decode cX6_sweepOver 64 = .ok (.iadd, 1) := by decide +kernel
theorem dX6_sweepOver_65 : decode cX6_sweepOver 65 = .ok (.iaload, 1) := by decide +kernel
theorem dX6_sweepOver_66 : decode cX6_sweepOver 66 = .ok (.aload_n 0, 1) := by decide +kernel
theorem dX6_sweepOver_67 : decode cX6_sweepOver 67 = .ok (.getfield 7, 3) := by decide +kernel
theorem dX6_sweepOver_70 : decode cX6_sweepOver 70 = .ok (.iload_n 1, 1) := by decide +kernel
theorem dX6_sweepOver_71 : decode cX6_sweepOver 71 = .ok (.bipush 9, 2) := by decide +kernel
theorem dX6_sweepOver_73 : decode cX6_sweepOver 73 = .ok (.iadd, 1) := by decide +kernel
theorem dX6_sweepOver_74 : decode cX6_sweepOver 74 = .ok (.iload 4, 2) := by decide +kernel
theorem dX6_sweepOver_76 : decode cX6_sweepOver 76 = .ok (.iadd, 1) := by decide +kernel
theorem dX6_sweepOver_77 : decode cX6_sweepOver 77 = .ok (.iaload, 1) := by decide +kernel
theorem dX6_sweepOver_78 : decode cX6_sweepOver 78 = .ok (.iadd, 1) := by decide +kernel
theorem dX6_sweepOver_79 : decode cX6_sweepOver 79 = .ok (.istore 5, 2) := by decide +kernel
theorem dX6_sweepOver_81 : decode cX6_sweepOver 81 = .ok (.iload 5, 2) := by decide +kernel
theorem dX6_sweepOver_83 : decode cX6_sweepOver 83 = .ok (.ifCond .le 18, 3) := by decide +kernel
theorem dX6_sweepOver_86 : decode cX6_sweepOver 86 = .ok (.aload_n 0, 1) := by decide +kernel
theorem dX6_sweepOver_87 : decode cX6_sweepOver 87 = .ok (.getfield 7, 3) := by decide +kernel
theorem dX6_sweepOver_90 : decode cX6_sweepOver 90 = .ok (.iload_n 1, 1) := by decide +kernel
theorem dX6_sweepOver_91 : decode cX6_sweepOver 91 = .ok (.bipush 76, 2) := by decide +kernel
theorem dX6_sweepOver_93 : decode cX6_sweepOver 93 = .ok (.iadd, 1) := by decide +kernel
theorem dX6_sweepOver_94 : decode cX6_sweepOver 94 = .ok (.iload_n 2, 1) := by decide +kernel
theorem dX6_sweepOver_95 : decode cX6_sweepOver 95 = .ok (.iadd, 1) := by decide +kernel
theorem dX6_sweepOver_96 : decode cX6_sweepOver 96 = .ok (.iconst 1, 1) := by decide +kernel
theorem dX6_sweepOver_97 : decode cX6_sweepOver 97 = .ok (.iastore, 1) := by decide +kernel
theorem dX6_sweepOver_98 : decode cX6_sweepOver 98 = .ok (.goto 67, 3) := by decide +kernel
theorem dX6_sweepOver_101 : decode cX6_sweepOver 101 = .ok (.iload 5, 2) := by decide +kernel
theorem dX6_sweepOver_103 : decode cX6_sweepOver 103 = .ok (.ifCond .ne 62, 3) := by decide +kernel
theorem dX6_sweepOver_106 : decode cX6_sweepOver 106 = .ok (.aload_n 0, 1) := by decide +kernel
theorem dX6_sweepOver_107 : decode cX6_sweepOver 107 = .ok (.getfield 7, 3) := by decide +kernel
theorem dX6_sweepOver_110 : decode cX6_sweepOver 110 = .ok (.iload_n 1, 1) := by decide +kernel
theorem dX6_sweepOver_111 : decode cX6_sweepOver 111 = .ok (.bipush 76, 2) := by decide +kernel
theorem dX6_sweepOver_113 : decode cX6_sweepOver 113 = .ok (.iadd, 1) := by decide +kernel
theorem dX6_sweepOver_114 : decode cX6_sweepOver 114 = .ok (.iload_n 2, 1) := by decide +kernel
theorem dX6_sweepOver_115 : decode cX6_sweepOver 115 = .ok (.iadd, 1) := by decide +kernel
theorem dX6_sweepOver_116 : decode cX6_sweepOver 116 = .ok (.iaload, 1) := by decide +kernel
theorem dX6_sweepOver_117 : decode cX6_sweepOver 117 = .ok (.iconst 1, 1) := by decide +kernel
theorem dX6_sweepOver_118 : decode cX6_sweepOver 118 = .ok (.if_icmp .ne 47, 3) := by decide +kernel
theorem dX6_sweepOver_121 : decode cX6_sweepOver 121 = .ok (.aload_n 0, 1) := by decide +kernel
theorem dX6_sweepOver_122 : decode cX6_sweepOver 122 = .ok (.iload_n 1, 1) := by decide +kernel
theorem dX6_sweepOver_123 : decode cX6_sweepOver 123 = .ok (.iload_n 3, 1) := by decide +kernel
theorem dX6_sweepOver_124 : decode cX6_sweepOver 124 = .ok (.invokevirtual 41, 3) := by decide +kernel
theorem dX6_sweepOver_127 : decode cX6_sweepOver 127 = .ok (.ifCond .ne 38, 3) := by decide +kernel
theorem dX6_sweepOver_130 : decode cX6_sweepOver 130 = .ok (.aload_n 0, 1) := by decide +kernel
theorem dX6_sweepOver_131 : decode cX6_sweepOver 131 = .ok (.iload_n 1, 1) := by decide +kernel
theorem dX6_sweepOver_132 : decode cX6_sweepOver 132 = .ok (.iload 4, 2) := by decide +kernel
theorem dX6_sweepOver_134 : decode cX6_sweepOver 134 = .ok (.invokevirtual 41, 3) := by decide +kernel
theorem dX6_sweepOver_137 : decode cX6_sweepOver 137 = .ok (.ifCond .ne 28, 3) := by decide +kernel
theorem dX6_sweepOver_140 : decode cX6_sweepOver 140 = .ok (.aload_n 0, 1) := by decide +kernel
theorem dX6_sweepOver_141 : decode cX6_sweepOver 141 = .ok (.iload_n 1, 1) := by decide +kernel
theorem dX6_sweepOver_142 : decode cX6_sweepOver 142 = .ok (.iload_n 3, 1) := by decide +kernel
theorem dX6_sweepOver_143 : decode cX6_sweepOver 143 = .ok (.invokevirtual 47, 3) := by decide +kernel
theorem dX6_sweepOver_146 : decode cX6_sweepOver 146 = .ok (.aload_n 0, 1) := by decide +kernel
theorem dX6_sweepOver_147 : decode cX6_sweepOver 147 = .ok (.iload_n 1, 1) := by decide +kernel
theorem dX6_sweepOver_148 : decode cX6_sweepOver 148 = .ok (.iload 4, 2) := by decide +kernel
theorem dX6_sweepOver_150 : decode cX6_sweepOver 150 = .ok (.invokevirtual 47, 3) := by decide +kernel
theorem dX6_sweepOver_153 : decode cX6_sweepOver 153 = .ok (.aload_n 0, 1) := by decide +kernel
theorem dX6_sweepOver_154 : decode cX6_sweepOver 154 = .ok (.getfield 7, 3) := by decide +kernel
theorem dX6_sweepOver_157 : decode cX6_sweepOver 157 = .ok (.iload_n 1, 1) := by decide +kernel
theorem dX6_sweepOver_158 : decode cX6_sweepOver 158 = .ok (.bipush 76, 2) := by decide +kernel
theorem dX6_sweepOver_160 : decode cX6_sweepOver 160 = .ok (.iadd, 1) := by decide +kernel
theorem dX6_sweepOver_161 : decode cX6_sweepOver 161 = .ok (.iload_n 2, 1) := by decide +kernel
theorem dX6_sweepOver_162 : decode cX6_sweepOver 162 = .ok (.iadd, 1) := by decide +kernel
theorem dX6_sweepOver_163 : decode cX6_sweepOver 163 = .ok (.iconst 0, 1) := by decide +kernel
theorem dX6_sweepOver_164 : decode cX6_sweepOver 164 = .ok (.iastore, 1) := by decide +kernel
theorem dX6_sweepOver_165 : decode cX6_sweepOver 165 = .ok (.return_, 1) := by decide +kernel
set_option maxRecDepth 20000 in
theorem ggX6_tickIn_X6_heads : GoodIn wsX6_tickIn wsX6_heads := goodIn_r _ [6, 1, 54, 55, 56, 57, 58, 59] (by decide +kernel) (by decide +kernel)
set_option maxRecDepth 20000 in
theorem gX6_tickIn_X6_heads : GoodIn wsX6_tickIn (wsV RX6 23 RX6 yX6_heads wsX6_heads) := goodIn_app (goodIn_of _ (by decide +kernel)) ggX6_tickIn_X6_heads
set_option maxRecDepth 20000 in
theorem ggX6_tickIn_X6_has : GoodIn wsX6_tickIn wsX6_has := goodIn_r _ [9] (by decide +kernel) (by decide +kernel)
set_option maxRecDepth 20000 in
theorem gX6_tickIn_X6_has : GoodIn wsX6_tickIn (va_wsS RX6 51 yX6_has wsX6_has) := goodIn_app (goodIn_of _ (by decide +kernel)) ggX6_tickIn_X6_has
set_option maxRecDepth 20000 in
theorem ggX6_tickIn_X6_hear : GoodIn wsX6_tickIn wsX6_hear := goodIn_r _ [13, 1, 14, 15, 16, 5, 17, 18, 19, 20, 21, 54, 55, 56, 57, 58, 59] (by decide +kernel) (by decide +kernel)
set_option maxRecDepth 20000 in
theorem gX6_tickIn_X6_hear : GoodIn wsX6_tickIn (wsV RX6 54 RX6 yX6_hear wsX6_hear) := goodIn_app (goodIn_of _ (by decide +kernel)) ggX6_tickIn_X6_hear
set_option maxRecDepth 20000 in
theorem ggX6_tickIn_X6_judgeOne : GoodIn wsX6_tickIn wsX6_judgeOne := goodIn_r _ [25, 1, 26, 27, 28, 5, 29, 30, 31, 32, 33, 34, 35, 36, 37, 38, 39, 40, 41, 42, 43, 44, 45, 54, 55, 56, 57, 58, 59] (by decide +kernel) (by decide +kernel)
set_option maxRecDepth 20000 in
theorem gX6_tickIn_X6_judgeOne : GoodIn wsX6_tickIn (wsV RX6 58 RX6 yX6_judgeOne wsX6_judgeOne) := goodIn_app (goodIn_of _ (by decide +kernel)) ggX6_tickIn_X6_judgeOne
set_option maxRecDepth 20000 in
theorem ggX6_tickIn_X6_isJoint : GoodIn wsX6_tickIn wsX6_isJoint := goodIn_r _ [49, 18, 19, 20, 5, 21, 1, 14, 15, 16, 17, 54, 55, 56, 57, 58, 59] (by decide +kernel) (by decide +kernel)
set_option maxRecDepth 20000 in
theorem gX6_tickIn_X6_isJoint : GoodIn wsX6_tickIn (wsV RX6 61 RX6 yX6_isJoint wsX6_isJoint) := goodIn_app (goodIn_of _ (by decide +kernel)) ggX6_tickIn_X6_isJoint
set_option maxRecDepth 20000 in
theorem ggX6_tickIn_X6_sweepOver : GoodIn wsX6_tickIn wsX6_sweepOver := goodIn_r _ [53, 1, 18, 19, 20, 5, 21, 14, 15, 16, 17, 30, 31, 32, 33, 34, 35, 36, 37, 38, 39, 40, 41, 42, 43, 44, 45, 54, 55, 56, 57, 58, 59] (by decide +kernel) (by decide +kernel)
set_option maxRecDepth 20000 in
theorem gX6_tickIn_X6_sweepOver : GoodIn wsX6_tickIn (wsV RX6 65 RX6 yX6_sweepOver wsX6_sweepOver) := goodIn_app (goodIn_of _ (by decide +kernel)) ggX6_tickIn_X6_sweepOver
theorem dX6_tickIn_0 : decode cX6_tickIn 0 = .ok (.iconst 0, 1) := by decide +kernel
theorem dX6_tickIn_1 : decode cX6_tickIn 1 = .ok (.istore_n 3, 1) := by decide +kernel
theorem dX6_tickIn_2 : decode cX6_tickIn 2 = .ok (.iload_n 3, 1) := by decide +kernel
theorem dX6_tickIn_3 : decode cX6_tickIn 3 = .ok (.aload_n 0, 1) := by decide +kernel
theorem dX6_tickIn_4 : decode cX6_tickIn 4 = .ok (.invokevirtual 23, 3) := by decide +kernel
theorem dX6_tickIn_7 : decode cX6_tickIn 7 = .ok (.if_icmp .ge 20, 3) := by decide +kernel
theorem dX6_tickIn_10 : decode cX6_tickIn 10 = .ok (.aload_n 0, 1) := by decide +kernel
theorem dX6_tickIn_11 : decode cX6_tickIn 11 = .ok (.iload_n 1, 1) := by decide +kernel
theorem dX6_tickIn_12 : decode cX6_tickIn 12 = .ok (.iload_n 3, 1) := by decide +kernel
theorem dX6_tickIn_13 : decode cX6_tickIn 13 = .ok (.iload_n 2, 1) := by decide +kernel
theorem dX6_tickIn_14 : decode cX6_tickIn 14 = .ok (.iload_n 3, 1) := by decide +kernel
theorem dX6_tickIn_15 : decode cX6_tickIn 15 = .ok (.invokestatic 51, 3) := by decide +kernel
theorem dX6_tickIn_18 : decode cX6_tickIn 18 = .ok (.invokevirtual 54, 3) := by decide +kernel
theorem dX6_tickIn_21 : decode cX6_tickIn 21 = .ok (.iinc 3 1, 3) := by decide +kernel
theorem dX6_tickIn_24 : decode cX6_tickIn 24 = .ok (.goto (-22), 3) := by decide +kernel
theorem dX6_tickIn_27 : decode cX6_tickIn 27 = .ok (.iconst 0, 1) := by decide +kernel
theorem dX6_tickIn_28 : decode cX6_tickIn 28 = .ok (.istore_n 3, 1) := by decide +kernel
theorem dX6_tickIn_29 : decode cX6_tickIn 29 = .ok (.iload_n 3, 1) := by decide +kernel
theorem dX6_tickIn_30 : decode cX6_tickIn 30 = .ok (.aload_n 0, 1) := by decide +kernel
theorem dX6_tickIn_31 : decode cX6_tickIn 31 = .ok (.getfield 7, 3) := by decide +kernel
theorem dX6_tickIn_34 : decode cX6_tickIn 34 = .ok (.iconst 0, 1) := by decide +kernel
theorem dX6_tickIn_35 : decode cX6_tickIn 35 = .ok (.iaload, 1) := by decide +kernel
theorem dX6_tickIn_36 : decode cX6_tickIn 36 = .ok (.if_icmp .ge 15, 3) := by decide +kernel
theorem dX6_tickIn_39 : decode cX6_tickIn 39 = .ok (.aload_n 0, 1) := by decide +kernel
theorem dX6_tickIn_40 : decode cX6_tickIn 40 = .ok (.iload_n 1, 1) := by decide +kernel
theorem dX6_tickIn_41 : decode cX6_tickIn 41 = .ok (.iload_n 3, 1) := by decide +kernel
theorem dX6_tickIn_42 : decode cX6_tickIn 42 = .ok (.invokevirtual 58, 3) := by decide +kernel
theorem dX6_tickIn_45 : decode cX6_tickIn 45 = .ok (.iinc 3 1, 3) := by decide +kernel
theorem dX6_tickIn_48 : decode cX6_tickIn 48 = .ok (.goto (-19), 3) := by decide +kernel
theorem dX6_tickIn_51 : decode cX6_tickIn 51 = .ok (.iconst 0, 1) := by decide +kernel
theorem dX6_tickIn_52 : decode cX6_tickIn 52 = .ok (.istore_n 3, 1) := by decide +kernel
theorem dX6_tickIn_53 : decode cX6_tickIn 53 = .ok (.iload_n 3, 1) := by decide +kernel
theorem dX6_tickIn_54 : decode cX6_tickIn 54 = .ok (.aload_n 0, 1) := by decide +kernel
theorem dX6_tickIn_55 : decode cX6_tickIn 55 = .ok (.invokevirtual 23, 3) := by decide +kernel
theorem dX6_tickIn_58 : decode cX6_tickIn 58 = .ok (.if_icmp .ge 23, 3) := by decide +kernel
theorem dX6_tickIn_61 : decode cX6_tickIn 61 = .ok (.aload_n 0, 1) := by decide +kernel
theorem dX6_tickIn_62 : decode cX6_tickIn 62 = .ok (.iload_n 3, 1) := by decide +kernel
theorem dX6_tickIn_63 : decode cX6_tickIn 63 = .ok (.invokevirtual 61, 3) := by decide +kernel
theorem dX6_tickIn_66 : decode cX6_tickIn 66 = .ok (.ifCond .eq 9, 3) := by decide +kernel
theorem dX6_tickIn_69 : decode cX6_tickIn 69 = .ok (.aload_n 0, 1) := by decide +kernel
theorem dX6_tickIn_70 : decode cX6_tickIn 70 = .ok (.iload_n 1, 1) := by decide +kernel
theorem dX6_tickIn_71 : decode cX6_tickIn 71 = .ok (.iload_n 3, 1) := by decide +kernel
theorem dX6_tickIn_72 : decode cX6_tickIn 72 = .ok (.invokevirtual 65, 3) := by decide +kernel
theorem dX6_tickIn_75 : decode cX6_tickIn 75 = .ok (.iinc 3 1, 3) := by decide +kernel
theorem dX6_tickIn_78 : decode cX6_tickIn 78 = .ok (.goto (-25), 3) := by decide +kernel
theorem dX6_tickIn_81 : decode cX6_tickIn 81 = .ok (.aload_n 0, 1) := by decide +kernel
theorem dX6_tickIn_82 : decode cX6_tickIn 82 = .ok (.getfield 7, 3) := by decide +kernel
theorem dX6_tickIn_85 : decode cX6_tickIn 85 = .ok (.iload_n 1, 1) := by decide +kernel
theorem dX6_tickIn_86 : decode cX6_tickIn 86 = .ok (.iconst 2, 1) := by decide +kernel
theorem dX6_tickIn_87 : decode cX6_tickIn 87 = .ok (.iadd, 1) := by decide +kernel
theorem dX6_tickIn_88 : decode cX6_tickIn 88 = .ok (.aload_n 0, 1) := by decide +kernel
theorem dX6_tickIn_89 : decode cX6_tickIn 89 = .ok (.getfield 7, 3) := by decide +kernel
theorem dX6_tickIn_92 : decode cX6_tickIn 92 = .ok (.iload_n 1, 1) := by decide +kernel
theorem dX6_tickIn_93 : decode cX6_tickIn 93 = .ok (.iconst 2, 1) := by decide +kernel
theorem dX6_tickIn_94 : decode cX6_tickIn 94 = .ok (.iadd, 1) := by decide +kernel
theorem dX6_tickIn_95 : decode cX6_tickIn 95 = .ok (.iaload, 1) := by decide +kernel
theorem dX6_tickIn_96 : decode cX6_tickIn 96 = .ok (.sipush 9999, 3) := by decide +kernel
theorem dX6_tickIn_99 : decode cX6_tickIn 99 = .ok (.if_icmp .ge 16, 3) := by decide +kernel
theorem dX6_tickIn_102 : decode cX6_tickIn 102 = .ok (.aload_n 0, 1) := by decide +kernel
theorem dX6_tickIn_103 : decode cX6_tickIn 103 = .ok (.getfield 7, 3) := by decide +kernel
theorem dX6_tickIn_106 : decode cX6_tickIn 106 = .ok (.iload_n 1, 1) := by decide +kernel
theorem dX6_tickIn_107 : decode cX6_tickIn 107 = .ok (.iconst 2, 1) := by decide +kernel
theorem dX6_tickIn_108 : decode cX6_tickIn 108 = .ok (.iadd, 1) := by decide +kernel
theorem dX6_tickIn_109 : decode cX6_tickIn 109 = .ok (.iaload, 1) := by decide +kernel
theorem dX6_tickIn_110 : decode cX6_tickIn 110 = .ok (.iconst 1, 1) := by decide +kernel
theorem dX6_tickIn_111 : decode cX6_tickIn 111 = .ok (.iadd, 1) := by decide +kernel
theorem dX6_tickIn_112 : decode cX6_tickIn 112 = .ok (.goto 6, 3) := by decide +kernel
theorem dX6_tickIn_115 : decode cX6_tickIn 115 = .ok (.sipush 9999, 3) := by decide +kernel
theorem dX6_tickIn_118 : decode cX6_tickIn 118 = .ok (.iastore, 1) := by decide +kernel
theorem dX6_tickIn_119 : decode cX6_tickIn 119 = .ok (.return_, 1) := by decide +kernel
theorem dX6_called_0 : decode cX6_called 0 = .ok (.iconst 0, 1) := by decide +kernel
theorem dX6_called_1 : decode cX6_called 1 = .ok (.istore_n 3, 1) := by decide +kernel
theorem dX6_called_2 : decode cX6_called 2 = .ok (.iconst 0, 1) := by decide +kernel
theorem dX6_called_3 : decode cX6_called 3 = .ok (.istore 4, 2) := by decide +kernel
theorem dX6_called_5 : decode cX6_called 5 = .ok (.iload 4, 2) := by decide +kernel
theorem dX6_called_7 : decode cX6_called 7 = .ok (.aload_n 0, 1) := by decide +kernel
theorem dX6_called_8 : decode cX6_called 8 = .ok (.getfield 7, 3) := by decide +kernel
theorem dX6_called_11 : decode cX6_called 11 = .ok (.iconst 0, 1) := by decide +kernel
theorem dX6_called_12 : decode cX6_called 12 = .ok (.iaload, 1) := by decide +kernel
theorem dX6_called_13 : decode cX6_called 13 = .ok (.if_icmp .ge 35, 3) := by decide +kernel
theorem dX6_called_16 : decode cX6_called 16 = .ok (.iload_n 3, 1) := by decide +kernel
theorem dX6_called_17 : decode cX6_called 17 = .ok (.aload_n 0, 1) := by decide +kernel
theorem dX6_called_18 : decode cX6_called 18 = .ok (.getfield 7, 3) := by decide +kernel
theorem dX6_called_21 : decode cX6_called 21 = .ok (.iload_n 1, 1) := by decide +kernel
theorem dX6_called_22 : decode cX6_called 22 = .ok (.iconst 3, 1) := by decide +kernel
theorem dX6_called_23 : decode cX6_called 23 = .ok (.iadd, 1) := by decide +kernel
theorem dX6_called_24 : decode cX6_called 24 = .ok (.iload 4, 2) := by decide +kernel
theorem dX6_called_26 : decode cX6_called 26 = .ok (.iadd, 1) := by decide +kernel
theorem dX6_called_27 : decode cX6_called 27 = .ok (.iaload, 1) := by decide +kernel
theorem dX6_called_28 : decode cX6_called 28 = .ok (.iload_n 2, 1) := by decide +kernel
theorem dX6_called_29 : decode cX6_called 29 = .ok (.if_icmp .ne 10, 3) := by decide +kernel
theorem dX6_called_32 : decode cX6_called 32 = .ok (.iconst 1, 1) := by decide +kernel
theorem dX6_called_33 : decode cX6_called 33 = .ok (.iload 4, 2) := by decide +kernel
theorem dX6_called_35 : decode cX6_called 35 = .ok (.ishl, 1) := by decide +kernel
theorem dX6_called_36 : decode cX6_called 36 = .ok (.goto 4, 3) := by decide +kernel
theorem dX6_called_39 : decode cX6_called 39 = .ok (.iconst 0, 1) := by decide +kernel
theorem dX6_called_40 : decode cX6_called 40 = .ok (.ior, 1) := by decide +kernel
theorem dX6_called_41 : decode cX6_called 41 = .ok (.istore_n 3, 1) := by decide +kernel
theorem dX6_called_42 : decode cX6_called 42 = .ok (.iinc 4 1, 3) := by decide +kernel
theorem dX6_called_45 : decode cX6_called 45 = .ok (.goto (-40), 3) := by decide +kernel
theorem dX6_called_48 : decode cX6_called 48 = .ok (.iload_n 3, 1) := by decide +kernel
theorem dX6_called_49 : decode cX6_called 49 = .ok (.ireturn, 1) := by decide +kernel
set_option maxRecDepth 20000 in
theorem ggX6_byHowMuch_X6_leavesNone : GoodIn wsX6_byHowMuch wsX6_leavesNone := goodIn_r _ [6, 1, 7, 8, 9, 5, 10, 11, 12, 13, 14, 15, 16, 17, 18, 19, 20] (by decide +kernel) (by decide +kernel)
set_option maxRecDepth 20000 in
theorem gX6_byHowMuch_X6_leavesNone : GoodIn wsX6_byHowMuch (wsV RX6 68 RX6 yX6_leavesNone wsX6_leavesNone) := goodIn_app (goodIn_of _ (by decide +kernel)) ggX6_byHowMuch_X6_leavesNone
theorem dX6_byHowMuch_0 : decode cX6_byHowMuch 0 = .ok (.iconst 0, 1) := by decide +kernel
theorem dX6_byHowMuch_1 : decode cX6_byHowMuch 1 = .ok (.istore_n 2, 1) := by decide +kernel
theorem dX6_byHowMuch_2 : decode cX6_byHowMuch 2 = .ok (.iconst 0, 1) := by decide +kernel
theorem dX6_byHowMuch_3 : decode cX6_byHowMuch 3 = .ok (.istore_n 3, 1) := by decide +kernel
theorem dX6_byHowMuch_4 : decode cX6_byHowMuch 4 = .ok (.iload_n 3, 1) := by decide +kernel
theorem dX6_byHowMuch_5 : decode cX6_byHowMuch 5 = .ok (.aload_n 0, 1) := by decide +kernel
theorem dX6_byHowMuch_6 : decode cX6_byHowMuch 6 = .ok (.getfield 7, 3) := by decide +kernel
theorem dX6_byHowMuch_9 : decode cX6_byHowMuch 9 = .ok (.iconst 0, 1) := by decide +kernel
theorem dX6_byHowMuch_10 : decode cX6_byHowMuch 10 = .ok (.iaload, 1) := by decide +kernel
theorem dX6_byHowMuch_11 : decode cX6_byHowMuch 11 = .ok (.if_icmp .ge 31, 3) := by decide +kernel
theorem dX6_byHowMuch_14 : decode cX6_byHowMuch 14 = .ok (.iload_n 2, 1) := by decide +kernel
theorem dX6_byHowMuch_15 : decode cX6_byHowMuch 15 = .ok (.ifCond .ne 15, 3) := by decide +kernel
theorem dX6_byHowMuch_18 : decode cX6_byHowMuch 18 = .ok (.aload_n 0, 1) := by decide +kernel
theorem dX6_byHowMuch_19 : decode cX6_byHowMuch 19 = .ok (.getfield 7, 3) := by decide +kernel
theorem dX6_byHowMuch_22 : decode cX6_byHowMuch 22 = .ok (.bipush 9, 2) := by decide +kernel
theorem dX6_byHowMuch_24 : decode cX6_byHowMuch 24 = .ok (.iload_n 3, 1) := by decide +kernel
theorem dX6_byHowMuch_25 : decode cX6_byHowMuch 25 = .ok (.iadd, 1) := by decide +kernel
theorem dX6_byHowMuch_26 : decode cX6_byHowMuch 26 = .ok (.iaload, 1) := by decide +kernel
theorem dX6_byHowMuch_27 : decode cX6_byHowMuch 27 = .ok (.ifCond .ge 7, 3) := by decide +kernel
theorem dX6_byHowMuch_30 : decode cX6_byHowMuch 30 = .ok (.iconst 1, 1) := by decide +kernel
theorem dX6_byHowMuch_31 : decode cX6_byHowMuch 31 = .ok (.goto 4, 3) := by decide +kernel
theorem dX6_byHowMuch_34 : decode cX6_byHowMuch 34 = .ok (.iconst 0, 1) := by decide +kernel
theorem dX6_byHowMuch_35 : decode cX6_byHowMuch 35 = .ok (.istore_n 2, 1) := by decide +kernel
theorem dX6_byHowMuch_36 : decode cX6_byHowMuch 36 = .ok (.iinc 3 1, 3) := by decide +kernel
theorem dX6_byHowMuch_39 : decode cX6_byHowMuch 39 = .ok (.goto (-35), 3) := by decide +kernel
theorem dX6_byHowMuch_42 : decode cX6_byHowMuch 42 = .ok (.iconst 2, 1) := by decide +kernel
theorem dX6_byHowMuch_43 : decode cX6_byHowMuch 43 = .ok (.istore_n 3, 1) := by decide +kernel
theorem dX6_byHowMuch_44 : decode cX6_byHowMuch 44 = .ok (.iload_n 3, 1) := by decide +kernel
theorem dX6_byHowMuch_45 : decode cX6_byHowMuch 45 = .ok (.bipush 20, 2) := by decide +kernel
theorem dX6_byHowMuch_47 : decode cX6_byHowMuch 47 = .ok (.if_icmp .ge 44, 3) := by decide +kernel
theorem dX6_byHowMuch_50 : decode cX6_byHowMuch 50 = .ok (.iload_n 2, 1) := by decide +kernel
theorem dX6_byHowMuch_51 : decode cX6_byHowMuch 51 = .ok (.ifCond .eq 40, 3) := by decide +kernel
theorem dX6_byHowMuch_54 : decode cX6_byHowMuch 54 = .ok (.iload_n 3, 1) := by decide +kernel
theorem dX6_byHowMuch_55 : decode cX6_byHowMuch 55 = .ok (.iconst 2, 1) := by decide +kernel
theorem dX6_byHowMuch_56 : decode cX6_byHowMuch 56 = .ok (.irem, 1) := by decide +kernel
theorem dX6_byHowMuch_57 : decode cX6_byHowMuch 57 = .ok (.ifCond .ne 9, 3) := by decide +kernel
theorem dX6_byHowMuch_60 : decode cX6_byHowMuch 60 = .ok (.iload_n 3, 1) := by decide +kernel
theorem dX6_byHowMuch_61 : decode cX6_byHowMuch 61 = .ok (.iconst 2, 1) := by decide +kernel
theorem dX6_byHowMuch_62 : decode cX6_byHowMuch 62 = .ok (.idiv, 1) := by decide +kernel
theorem dX6_byHowMuch_63 : decode cX6_byHowMuch 63 = .ok (.goto 7, 3) := by decide +kernel
theorem dX6_byHowMuch_66 : decode cX6_byHowMuch 66 = .ok (.iload_n 3, 1) := by decide +kernel
theorem dX6_byHowMuch_67 : decode cX6_byHowMuch 67 = .ok (.iconst 2, 1) := by decide +kernel
theorem dX6_byHowMuch_68 : decode cX6_byHowMuch 68 = .ok (.idiv, 1) := by decide +kernel
theorem dX6_byHowMuch_69 : decode cX6_byHowMuch 69 = .ok (.ineg, 1) := by decide +kernel
theorem dX6_byHowMuch_70 : decode cX6_byHowMuch 70 = .ok (.istore 4, 2) := by decide +kernel
theorem dX6_byHowMuch_72 : decode cX6_byHowMuch 72 = .ok (.aload_n 0, 1) := by decide +kernel
theorem dX6_byHowMuch_73 : decode cX6_byHowMuch 73 = .ok (.iload_n 1, 1) := by decide +kernel
theorem dX6_byHowMuch_74 : decode cX6_byHowMuch 74 = .ok (.iload 4, 2) := by decide +kernel
theorem dX6_byHowMuch_76 : decode cX6_byHowMuch 76 = .ok (.invokevirtual 68, 3) := by decide +kernel
theorem dX6_byHowMuch_79 : decode cX6_byHowMuch 79 = .ok (.ifCond .eq 6, 3) := by decide +kernel
theorem dX6_byHowMuch_82 : decode cX6_byHowMuch 82 = .ok (.iload 4, 2) := by decide +kernel
theorem dX6_byHowMuch_84 : decode cX6_byHowMuch 84 = .ok (.ireturn, 1) := by decide +kernel
theorem dX6_byHowMuch_85 : decode cX6_byHowMuch 85 = .ok (.iinc 3 1, 3) := by decide +kernel
theorem dX6_byHowMuch_88 : decode cX6_byHowMuch 88 = .ok (.goto (-44), 3) := by decide +kernel
theorem dX6_byHowMuch_91 : decode cX6_byHowMuch 91 = .ok (.iconst 0, 1) := by decide +kernel
theorem dX6_byHowMuch_92 : decode cX6_byHowMuch 92 = .ok (.ireturn, 1) := by decide +kernel
set_option maxRecDepth 20000 in
theorem ggX6_leavesNone_X6_rightOf : GoodIn wsX6_leavesNone wsX6_rightOf := goodIn_r _ [6, 1, 11, 12, 13, 14, 15, 16] (by decide +kernel) (by decide +kernel)
set_option maxRecDepth 20000 in
theorem gX6_leavesNone_X6_rightOf : GoodIn wsX6_leavesNone (wsV RX6 27 RX6 yX6_rightOf wsX6_rightOf) := goodIn_app (goodIn_of _ (by decide +kernel)) ggX6_leavesNone_X6_rightOf
set_option maxRecDepth 20000 in
theorem ggX6_leavesNone_X6_leftOf : GoodIn wsX6_leavesNone wsX6_leftOf := goodIn_r _ [10, 1, 11, 12, 13, 14, 15, 16] (by decide +kernel) (by decide +kernel)
set_option maxRecDepth 20000 in
theorem gX6_leavesNone_X6_leftOf : GoodIn wsX6_leavesNone (wsV RX6 31 RX6 yX6_leftOf wsX6_leftOf) := goodIn_app (goodIn_of _ (by decide +kernel)) ggX6_leavesNone_X6_leftOf
theorem dX6_leavesNone_0 : decode cX6_leavesNone 0 = .ok (.iconst 1, 1) := by decide +kernel
theorem dX6_leavesNone_1 : decode cX6_leavesNone 1 = .ok (.istore_n 3, 1) := by decide +kernel
theorem dX6_leavesNone_2 : decode cX6_leavesNone 2 = .ok (.iconst 0, 1) := by decide +kernel
theorem dX6_leavesNone_3 : decode cX6_leavesNone 3 = .ok (.istore 4, 2) := by decide +kernel
theorem dX6_leavesNone_5 : decode cX6_leavesNone 5 = .ok (.iload 4, 2) := by decide +kernel
theorem dX6_leavesNone_7 : decode cX6_leavesNone 7 = .ok (.aload_n 0, 1) := by decide +kernel
theorem dX6_leavesNone_8 : decode cX6_leavesNone 8 = .ok (.getfield 7, 3) := by decide +kernel
theorem dX6_leavesNone_11 : decode cX6_leavesNone 11 = .ok (.iconst 0, 1) := by decide +kernel
theorem dX6_leavesNone_12 : decode cX6_leavesNone 12 = .ok (.iaload, 1) := by decide +kernel
theorem dX6_leavesNone_13 : decode cX6_leavesNone 13 = .ok (.if_icmp .ge 68, 3) := by decide +kernel
theorem dX6_leavesNone_16 : decode cX6_leavesNone 16 = .ok (.aload_n 0, 1) := by decide +kernel
theorem dX6_leavesNone_17 : decode cX6_leavesNone 17 = .ok (.getfield 7, 3) := by decide +kernel
theorem dX6_leavesNone_20 : decode cX6_leavesNone 20 = .ok (.bipush 9, 2) := by decide +kernel
theorem dX6_leavesNone_22 : decode cX6_leavesNone 22 = .ok (.iload 4, 2) := by decide +kernel
theorem dX6_leavesNone_24 : decode cX6_leavesNone 24 = .ok (.iadd, 1) := by decide +kernel
theorem dX6_leavesNone_25 : decode cX6_leavesNone 25 = .ok (.iaload, 1) := by decide +kernel
theorem dX6_leavesNone_26 : decode cX6_leavesNone 26 = .ok (.aload_n 0, 1) := by decide +kernel
theorem dX6_leavesNone_27 : decode cX6_leavesNone 27 = .ok (.iload_n 1, 1) := by decide +kernel
theorem dX6_leavesNone_28 : decode cX6_leavesNone 28 = .ok (.invokevirtual 27, 3) := by decide +kernel
theorem dX6_leavesNone_31 : decode cX6_leavesNone 31 = .ok (.iload 4, 2) := by decide +kernel
theorem dX6_leavesNone_33 : decode cX6_leavesNone 33 = .ok (.if_icmp .ne 7, 3) := by decide +kernel
theorem dX6_leavesNone_36 : decode cX6_leavesNone 36 = .ok (.iload_n 2, 1) := by decide +kernel
theorem dX6_leavesNone_37 : decode cX6_leavesNone 37 = .ok (.goto 4, 3) := by decide +kernel
theorem dX6_leavesNone_40 : decode cX6_leavesNone 40 = .ok (.iconst 0, 1) := by decide +kernel
theorem dX6_leavesNone_41 : decode cX6_leavesNone 41 = .ok (.iadd, 1) := by decide +kernel
theorem dX6_leavesNone_42 : decode cX6_leavesNone 42 = .ok (.aload_n 0, 1) := by decide +kernel
theorem dX6_leavesNone_43 : decode cX6_leavesNone 43 = .ok (.iload_n 1, 1) := by decide +kernel
theorem dX6_leavesNone_44 : decode cX6_leavesNone 44 = .ok (.invokevirtual 31, 3) := by decide +kernel
theorem dX6_leavesNone_47 : decode cX6_leavesNone 47 = .ok (.iload 4, 2) := by decide +kernel
theorem dX6_leavesNone_49 : decode cX6_leavesNone 49 = .ok (.if_icmp .ne 7, 3) := by decide +kernel
theorem dX6_leavesNone_52 : decode cX6_leavesNone 52 = .ok (.iload_n 2, 1) := by decide +kernel
theorem dX6_leavesNone_53 : decode cX6_leavesNone 53 = .ok (.goto 4, 3) := by decide +kernel
theorem dX6_leavesNone_56 : decode cX6_leavesNone 56 = .ok (.iconst 0, 1) := by decide +kernel
theorem dX6_leavesNone_57 : decode cX6_leavesNone 57 = .ok (.isub, 1) := by decide +kernel
theorem dX6_leavesNone_58 : decode cX6_leavesNone 58 = .ok (.istore 5, 2) := by decide +kernel
theorem dX6_leavesNone_60 : decode cX6_leavesNone 60 = .ok (.iload_n 3, 1) := by decide +kernel
theorem dX6_leavesNone_61 : decode cX6_leavesNone 61 = .ok (.ifCond .eq 12, 3) := by decide +kernel
theorem dX6_leavesNone_64 : decode cX6_leavesNone 64 = .ok (.iload 5, 2) := by decide +kernel
theorem dX6_leavesNone_66 : decode cX6_leavesNone 66 = .ok (.ifCond .lt 7, 3) := by decide +kernel
theorem dX6_leavesNone_69 : decode cX6_leavesNone 69 = .ok (.iconst 1, 1) := by decide +kernel
theorem dX6_leavesNone_70 : decode cX6_leavesNone 70 = .ok (.goto 4, 3) := by decide +kernel
theorem dX6_leavesNone_73 : decode cX6_leavesNone 73 = .ok (.iconst 0, 1) := by decide +kernel
theorem dX6_leavesNone_74 : decode cX6_leavesNone 74 = .ok (.istore_n 3, 1) := by decide +kernel
theorem dX6_leavesNone_75 : decode cX6_leavesNone 75 = .ok (.iinc 4 1, 3) := by decide +kernel
theorem dX6_leavesNone_78 : decode cX6_leavesNone 78 = .ok (.goto (-73), 3) := by decide +kernel
theorem dX6_leavesNone_81 : decode cX6_leavesNone 81 = .ok (.iload_n 3, 1) := by decide +kernel
theorem dX6_leavesNone_82 : decode cX6_leavesNone 82 = .ok (.ireturn, 1) := by decide +kernel
theorem dX6_setOf_0 : decode cX6_setOf 0 = .ok (.iconst 0, 1) := by decide +kernel
theorem dX6_setOf_1 : decode cX6_setOf 1 = .ok (.istore_n 2, 1) := by decide +kernel
theorem dX6_setOf_2 : decode cX6_setOf 2 = .ok (.iconst 0, 1) := by decide +kernel
theorem dX6_setOf_3 : decode cX6_setOf 3 = .ok (.istore_n 3, 1) := by decide +kernel
theorem dX6_setOf_4 : decode cX6_setOf 4 = .ok (.iload_n 3, 1) := by decide +kernel
theorem dX6_setOf_5 : decode cX6_setOf 5 = .ok (.aload_n 0, 1) := by decide +kernel
theorem dX6_setOf_6 : decode cX6_setOf 6 = .ok (.getfield 7, 3) := by decide +kernel
theorem dX6_setOf_9 : decode cX6_setOf 9 = .ok (.iconst 0, 1) := by decide +kernel
theorem dX6_setOf_10 : decode cX6_setOf 10 = .ok (.iaload, 1) := by decide +kernel
theorem dX6_setOf_11 : decode cX6_setOf 11 = .ok (.if_icmp .ge 97, 3) := by decide +kernel
theorem dX6_setOf_14 : decode cX6_setOf 14 = .ok (.aload_n 0, 1) := by decide +kernel
theorem dX6_setOf_15 : decode cX6_setOf 15 = .ok (.getfield 7, 3) := by decide +kernel
theorem dX6_setOf_18 : decode cX6_setOf 18 = .ok (.iconst 3, 1) := by decide +kernel
theorem dX6_setOf_19 : decode cX6_setOf 19 = .ok (.iload_n 3, 1) := by decide +kernel
theorem dX6_setOf_20 : decode cX6_setOf 20 = .ok (.iadd, 1) := by decide +kernel
theorem dX6_setOf_21 : decode cX6_setOf 21 = .ok (.iaload, 1) := by decide +kernel
theorem dX6_setOf_22 : decode cX6_setOf 22 = .ok (.ifCond .ne 7, 3) := by decide +kernel
theorem dX6_setOf_25 : decode cX6_setOf 25 = .ok (.iconst 1, 1) := by decide +kernel
theorem dX6_setOf_26 : decode cX6_setOf 26 = .ok (.goto 4, 3) := by decide +kernel
theorem dX6_setOf_29 : decode cX6_setOf 29 = .ok (.iconst 0, 1) := by decide +kernel
theorem dX6_setOf_30 : decode cX6_setOf 30 = .ok (.istore 4, 2) := by decide +kernel
theorem dX6_setOf_32 : decode cX6_setOf 32 = .ok (.iload_n 1, 1) := by decide +kernel
theorem dX6_setOf_33 : decode cX6_setOf 33 = .ok (.bipush 8, 2) := by decide +kernel
theorem dX6_setOf_35 : decode cX6_setOf 35 = .ok (.if_icmp .ne 28, 3) := by decide +kernel
theorem dX6_setOf_38 : decode cX6_setOf 38 = .ok (.iload 4, 2) := by decide +kernel
theorem dX6_setOf_40 : decode cX6_setOf 40 = .ok (.ifCond .eq 19, 3) := by decide +kernel
theorem dX6_setOf_43 : decode cX6_setOf 43 = .ok (.aload_n 0, 1) := by decide +kernel
theorem dX6_setOf_44 : decode cX6_setOf 44 = .ok (.getfield 7, 3) := by decide +kernel
theorem dX6_setOf_47 : decode cX6_setOf 47 = .ok (.bipush 15, 2) := by decide +kernel
theorem dX6_setOf_49 : decode cX6_setOf 49 = .ok (.iload_n 3, 1) := by decide +kernel
theorem dX6_setOf_50 : decode cX6_setOf 50 = .ok (.iadd, 1) := by decide +kernel
theorem dX6_setOf_51 : decode cX6_setOf 51 = .ok (.iaload, 1) := by decide +kernel
theorem dX6_setOf_52 : decode cX6_setOf 52 = .ok (.ifCond .le 7, 3) := by decide +kernel
theorem dX6_setOf_55 : decode cX6_setOf 55 = .ok (.iconst 1, 1) := by decide +kernel
theorem dX6_setOf_56 : decode cX6_setOf 56 = .ok (.goto 29, 3) := by decide +kernel
theorem dX6_setOf_59 : decode cX6_setOf 59 = .ok (.iconst 0, 1) := by decide +kernel
theorem dX6_setOf_60 : decode cX6_setOf 60 = .ok (.goto 25, 3) := by decide +kernel
theorem dX6_setOf_63 : decode cX6_setOf 63 = .ok (.iload 4, 2) := by decide +kernel
theorem dX6_setOf_65 : decode cX6_setOf 65 = .ok (.ifCond .ne 19, 3) := by decide +kernel
theorem dX6_setOf_68 : decode cX6_setOf 68 = .ok (.aload_n 0, 1) := by decide +kernel
theorem dX6_setOf_69 : decode cX6_setOf 69 = .ok (.getfield 7, 3) := by decide +kernel
theorem dX6_setOf_72 : decode cX6_setOf 72 = .ok (.bipush 15, 2) := by decide +kernel
theorem dX6_setOf_74 : decode cX6_setOf 74 = .ok (.iload_n 3, 1) := by decide +kernel
theorem dX6_setOf_75 : decode cX6_setOf 75 = .ok (.iadd, 1) := by decide +kernel
theorem dX6_setOf_76 : decode cX6_setOf 76 = .ok (.iaload, 1) := by decide +kernel
theorem dX6_setOf_77 : decode cX6_setOf 77 = .ok (.ifCond .ne 7, 3) := by decide +kernel
theorem dX6_setOf_80 : decode cX6_setOf 80 = .ok (.iconst 1, 1) := by decide +kernel
theorem dX6_setOf_81 : decode cX6_setOf 81 = .ok (.goto 4, 3) := by decide +kernel
theorem dX6_setOf_84 : decode cX6_setOf 84 = .ok (.iconst 0, 1) := by decide +kernel
theorem dX6_setOf_85 : decode cX6_setOf 85 = .ok (.istore 5, 2) := by decide +kernel
theorem dX6_setOf_87 : decode cX6_setOf 87 = .ok (.iload_n 2, 1) := by decide +kernel
theorem dX6_setOf_88 : decode cX6_setOf 88 = .ok (.iload 5, 2) := by decide +kernel
theorem dX6_setOf_90 : decode cX6_setOf 90 = .ok (.ifCond .eq 9, 3) := by decide +kernel
theorem dX6_setOf_93 : decode cX6_setOf 93 = .ok (.iconst 1, 1) := by decide +kernel
theorem dX6_setOf_94 : decode cX6_setOf 94 = .ok (.iload_n 3, 1) := by decide +kernel
theorem dX6_setOf_95 : decode cX6_setOf 95 = .ok (.ishl, 1) := by decide +kernel
theorem dX6_setOf_96 : decode cX6_setOf 96 = .ok (.goto 4, 3) := by decide +kernel
theorem dX6_setOf_99 : decode cX6_setOf 99 = .ok (.iconst 0, 1) := by decide +kernel
theorem dX6_setOf_100 : decode cX6_setOf 100 = .ok (.ior, 1) := by decide +kernel
theorem dX6_setOf_101 : decode cX6_setOf 101 = .ok (.istore_n 2, 1) := by decide +kernel
theorem dX6_setOf_102 : decode cX6_setOf 102 = .ok (.iinc 3 1, 3) := by decide +kernel
theorem dX6_setOf_105 : decode cX6_setOf 105 = .ok (.goto (-101), 3) := by decide +kernel
theorem dX6_setOf_108 : decode cX6_setOf 108 = .ok (.iload_n 2, 1) := by decide +kernel
theorem dX6_setOf_109 : decode cX6_setOf 109 = .ok (.ireturn, 1) := by decide +kernel
set_option maxRecDepth 20000 in
theorem ggX6_headSet_X6_heads : GoodIn wsX6_headSet wsX6_heads := goodIn_r _ [6, 1, 23, 24, 25, 26, 27, 28] (by decide +kernel) (by decide +kernel)
set_option maxRecDepth 20000 in
theorem gX6_headSet_X6_heads : GoodIn wsX6_headSet (wsV RX6 23 RX6 yX6_heads wsX6_heads) := goodIn_app (goodIn_of _ (by decide +kernel)) ggX6_headSet_X6_heads
set_option maxRecDepth 20000 in
theorem ggX6_headSet_X6_byHowMuch : GoodIn wsX6_headSet wsX6_byHowMuch := goodIn_r _ [10, 1, 11, 12, 13, 5, 14, 15, 16, 17, 18, 19, 20, 21, 22, 23, 24, 25, 26, 27, 28] (by decide +kernel) (by decide +kernel)
set_option maxRecDepth 20000 in
theorem gX6_headSet_X6_byHowMuch : GoodIn wsX6_headSet (wsV RX6 71 RX6 yX6_byHowMuch wsX6_byHowMuch) := goodIn_app (goodIn_of _ (by decide +kernel)) ggX6_headSet_X6_byHowMuch
theorem dX6_headSet_0 : decode cX6_headSet 0 = .ok (.iconst 0, 1) := by decide +kernel
theorem dX6_headSet_1 : decode cX6_headSet 1 = .ok (.istore_n 2, 1) := by decide +kernel
theorem dX6_headSet_2 : decode cX6_headSet 2 = .ok (.iconst 0, 1) := by decide +kernel
theorem dX6_headSet_3 : decode cX6_headSet 3 = .ok (.istore_n 3, 1) := by decide +kernel
theorem dX6_headSet_4 : decode cX6_headSet 4 = .ok (.iload_n 3, 1) := by decide +kernel
theorem dX6_headSet_5 : decode cX6_headSet 5 = .ok (.aload_n 0, 1) := by decide +kernel
theorem dX6_headSet_6 : decode cX6_headSet 6 = .ok (.invokevirtual 23, 3) := by decide +kernel
theorem dX6_headSet_9 : decode cX6_headSet 9 = .ok (.if_icmp .ge 64, 3) := by decide +kernel
theorem dX6_headSet_12 : decode cX6_headSet 12 = .ok (.iload_n 1, 1) := by decide +kernel
theorem dX6_headSet_13 : decode cX6_headSet 13 = .ok (.ifCond .eq 24, 3) := by decide +kernel
theorem dX6_headSet_16 : decode cX6_headSet 16 = .ok (.aload_n 0, 1) := by decide +kernel
theorem dX6_headSet_17 : decode cX6_headSet 17 = .ok (.getfield 7, 3) := by decide +kernel
theorem dX6_headSet_20 : decode cX6_headSet 20 = .ok (.bipush 62, 2) := by decide +kernel
theorem dX6_headSet_22 : decode cX6_headSet 22 = .ok (.iload_n 3, 1) := by decide +kernel
theorem dX6_headSet_23 : decode cX6_headSet 23 = .ok (.iadd, 1) := by decide +kernel
theorem dX6_headSet_24 : decode cX6_headSet 24 = .ok (.iaload, 1) := by decide +kernel
theorem dX6_headSet_25 : decode cX6_headSet 25 = .ok (.iconst 1, 1) := by decide +kernel
theorem dX6_headSet_26 : decode cX6_headSet 26 = .ok (.if_icmp .ne 7, 3) := by decide +kernel
theorem dX6_headSet_29 : decode cX6_headSet 29 = .ok (.iconst 1, 1) := by decide +kernel
theorem dX6_headSet_30 : decode cX6_headSet 30 = .ok (.goto 20, 3) := by decide +kernel
theorem dX6_headSet_33 : decode cX6_headSet 33 = .ok (.iconst 0, 1) := by decide +kernel
theorem dX6_headSet_34 : decode cX6_headSet 34 = .ok (.goto 16, 3) := by decide +kernel
theorem dX6_headSet_37 : decode cX6_headSet 37 = .ok (.aload_n 0, 1) := by decide +kernel
theorem dX6_headSet_38 : decode cX6_headSet 38 = .ok (.iload_n 3, 1) := by decide +kernel
theorem dX6_headSet_39 : decode cX6_headSet 39 = .ok (.invokevirtual 71, 3) := by decide +kernel
theorem dX6_headSet_42 : decode cX6_headSet 42 = .ok (.ifCond .eq 7, 3) := by decide +kernel
theorem dX6_headSet_45 : decode cX6_headSet 45 = .ok (.iconst 1, 1) := by decide +kernel
theorem dX6_headSet_46 : decode cX6_headSet 46 = .ok (.goto 4, 3) := by decide +kernel
theorem dX6_headSet_49 : decode cX6_headSet 49 = .ok (.iconst 0, 1) := by decide +kernel
theorem dX6_headSet_50 : decode cX6_headSet 50 = .ok (.istore 4, 2) := by decide +kernel
theorem dX6_headSet_52 : decode cX6_headSet 52 = .ok (.iload_n 2, 1) := by decide +kernel
theorem dX6_headSet_53 : decode cX6_headSet 53 = .ok (.iload 4, 2) := by decide +kernel
theorem dX6_headSet_55 : decode cX6_headSet 55 = .ok (.ifCond .eq 9, 3) := by decide +kernel
theorem dX6_headSet_58 : decode cX6_headSet 58 = .ok (.iconst 1, 1) := by decide +kernel
theorem dX6_headSet_59 : decode cX6_headSet 59 = .ok (.iload_n 3, 1) := by decide +kernel
theorem dX6_headSet_60 : decode cX6_headSet 60 = .ok (.ishl, 1) := by decide +kernel
theorem dX6_headSet_61 : decode cX6_headSet 61 = .ok (.goto 4, 3) := by decide +kernel
theorem dX6_headSet_64 : decode cX6_headSet 64 = .ok (.iconst 0, 1) := by decide +kernel
theorem dX6_headSet_65 : decode cX6_headSet 65 = .ok (.ior, 1) := by decide +kernel
theorem dX6_headSet_66 : decode cX6_headSet 66 = .ok (.istore_n 2, 1) := by decide +kernel
theorem dX6_headSet_67 : decode cX6_headSet 67 = .ok (.iinc 3 1, 3) := by decide +kernel
theorem dX6_headSet_70 : decode cX6_headSet 70 = .ok (.goto (-66), 3) := by decide +kernel
theorem dX6_headSet_73 : decode cX6_headSet 73 = .ok (.iload_n 2, 1) := by decide +kernel
theorem dX6_headSet_74 : decode cX6_headSet 74 = .ok (.ireturn, 1) := by decide +kernel
theorem dX6_allOf_0 : decode cX6_allOf 0 = .ok (.iconst 0, 1) := by decide +kernel
theorem dX6_allOf_1 : decode cX6_allOf 1 = .ok (.istore_n 2, 1) := by decide +kernel
theorem dX6_allOf_2 : decode cX6_allOf 2 = .ok (.iconst 0, 1) := by decide +kernel
theorem dX6_allOf_3 : decode cX6_allOf 3 = .ok (.istore_n 3, 1) := by decide +kernel
theorem dX6_allOf_4 : decode cX6_allOf 4 = .ok (.iload_n 3, 1) := by decide +kernel
theorem dX6_allOf_5 : decode cX6_allOf 5 = .ok (.aload_n 0, 1) := by decide +kernel
theorem dX6_allOf_6 : decode cX6_allOf 6 = .ok (.getfield 7, 3) := by decide +kernel
theorem dX6_allOf_9 : decode cX6_allOf 9 = .ok (.iconst 0, 1) := by decide +kernel
theorem dX6_allOf_10 : decode cX6_allOf 10 = .ok (.iaload, 1) := by decide +kernel
theorem dX6_allOf_11 : decode cX6_allOf 11 = .ok (.if_icmp .ge 20, 3) := by decide +kernel
theorem dX6_allOf_14 : decode cX6_allOf 14 = .ok (.iload_n 2, 1) := by decide +kernel
theorem dX6_allOf_15 : decode cX6_allOf 15 = .ok (.aload_n 0, 1) := by decide +kernel
theorem dX6_allOf_16 : decode cX6_allOf 16 = .ok (.getfield 7, 3) := by decide +kernel
theorem dX6_allOf_19 : decode cX6_allOf 19 = .ok (.iload_n 1, 1) := by decide +kernel
theorem dX6_allOf_20 : decode cX6_allOf 20 = .ok (.iload_n 3, 1) := by decide +kernel
theorem dX6_allOf_21 : decode cX6_allOf 21 = .ok (.iadd, 1) := by decide +kernel
theorem dX6_allOf_22 : decode cX6_allOf 22 = .ok (.iaload, 1) := by decide +kernel
theorem dX6_allOf_23 : decode cX6_allOf 23 = .ok (.iadd, 1) := by decide +kernel
theorem dX6_allOf_24 : decode cX6_allOf 24 = .ok (.istore_n 2, 1) := by decide +kernel
theorem dX6_allOf_25 : decode cX6_allOf 25 = .ok (.iinc 3 1, 3) := by decide +kernel
theorem dX6_allOf_28 : decode cX6_allOf 28 = .ok (.goto (-24), 3) := by decide +kernel
theorem dX6_allOf_31 : decode cX6_allOf 31 = .ok (.iload_n 2, 1) := by decide +kernel
theorem dX6_allOf_32 : decode cX6_allOf 32 = .ok (.ireturn, 1) := by decide +kernel
set_option maxRecDepth 20000 in
theorem ggX6_wrongEntry_X6_isSection : GoodIn wsX6_wrongEntry wsX6_isSection := goodIn_r _ [9, 3, 10, 11, 8, 12, 13, 14, 15, 16, 17, 18] (by decide +kernel) (by decide +kernel)
set_option maxRecDepth 20000 in
theorem gX6_wrongEntry_X6_isSection : GoodIn wsX6_wrongEntry (wsV RX6 78 RX6 yX6_isSection wsX6_isSection) := goodIn_app (goodIn_of _ (by decide +kernel)) ggX6_wrongEntry_X6_isSection
theorem dX6_wrongEntry_0 : decode cX6_wrongEntry 0 = .ok (.iconst 0, 1) := by decide +kernel
theorem dX6_wrongEntry_1 : decode cX6_wrongEntry 1 = .ok (.istore_n 1, 1) := by decide +kernel
theorem dX6_wrongEntry_2 : decode cX6_wrongEntry 2 = .ok (.iload_n 1, 1) := by decide +kernel
theorem dX6_wrongEntry_3 : decode cX6_wrongEntry 3 = .ok (.aload_n 0, 1) := by decide +kernel
theorem dX6_wrongEntry_4 : decode cX6_wrongEntry 4 = .ok (.getfield 74, 3) := by decide +kernel
theorem dX6_wrongEntry_7 : decode cX6_wrongEntry 7 = .ok (.if_icmp .ge 46, 3) := by decide +kernel
theorem dX6_wrongEntry_10 : decode cX6_wrongEntry 10 = .ok (.aload_n 0, 1) := by decide +kernel
theorem dX6_wrongEntry_11 : decode cX6_wrongEntry 11 = .ok (.aload_n 0, 1) := by decide +kernel
theorem dX6_wrongEntry_12 : decode cX6_wrongEntry 12 = .ok (.getfield 13, 3) := by decide +kernel
theorem dX6_wrongEntry_15 : decode cX6_wrongEntry 15 = .ok (.iload_n 1, 1) := by decide +kernel
theorem dX6_wrongEntry_16 : decode cX6_wrongEntry 16 = .ok (.iaload, 1) := by decide +kernel
theorem dX6_wrongEntry_17 : decode cX6_wrongEntry 17 = .ok (.invokevirtual 78, 3) := by decide +kernel
theorem dX6_wrongEntry_20 : decode cX6_wrongEntry 20 = .ok (.ifCond .eq 25, 3) := by decide +kernel
theorem dX6_wrongEntry_23 : decode cX6_wrongEntry 23 = .ok (.aload_n 0, 1) := by decide +kernel
theorem dX6_wrongEntry_24 : decode cX6_wrongEntry 24 = .ok (.getfield 7, 3) := by decide +kernel
theorem dX6_wrongEntry_27 : decode cX6_wrongEntry 27 = .ok (.iconst 3, 1) := by decide +kernel
theorem dX6_wrongEntry_28 : decode cX6_wrongEntry 28 = .ok (.aload_n 0, 1) := by decide +kernel
theorem dX6_wrongEntry_29 : decode cX6_wrongEntry 29 = .ok (.getfield 13, 3) := by decide +kernel
theorem dX6_wrongEntry_32 : decode cX6_wrongEntry 32 = .ok (.iload_n 1, 1) := by decide +kernel
theorem dX6_wrongEntry_33 : decode cX6_wrongEntry 33 = .ok (.iaload, 1) := by decide +kernel
theorem dX6_wrongEntry_34 : decode cX6_wrongEntry 34 = .ok (.iadd, 1) := by decide +kernel
theorem dX6_wrongEntry_35 : decode cX6_wrongEntry 35 = .ok (.iaload, 1) := by decide +kernel
theorem dX6_wrongEntry_36 : decode cX6_wrongEntry 36 = .ok (.aload_n 0, 1) := by decide +kernel
theorem dX6_wrongEntry_37 : decode cX6_wrongEntry 37 = .ok (.getfield 16, 3) := by decide +kernel
theorem dX6_wrongEntry_40 : decode cX6_wrongEntry 40 = .ok (.iload_n 1, 1) := by decide +kernel
theorem dX6_wrongEntry_41 : decode cX6_wrongEntry 41 = .ok (.iaload, 1) := by decide +kernel
theorem dX6_wrongEntry_42 : decode cX6_wrongEntry 42 = .ok (.if_icmp .eq 5, 3) := by decide +kernel
theorem dX6_wrongEntry_45 : decode cX6_wrongEntry 45 = .ok (.iload_n 1, 1) := by decide +kernel
theorem dX6_wrongEntry_46 : decode cX6_wrongEntry 46 = .ok (.ireturn, 1) := by decide +kernel
theorem dX6_wrongEntry_47 : decode cX6_wrongEntry 47 = .ok (.iinc 1 1, 3) := by decide +kernel
theorem dX6_wrongEntry_50 : decode cX6_wrongEntry 50 = .ok (.goto (-48), 3) := by decide +kernel
theorem dX6_wrongEntry_53 : decode cX6_wrongEntry 53 = .ok (.iconst (-1), 1) := by decide +kernel
theorem dX6_wrongEntry_54 : decode cX6_wrongEntry 54 = .ok (.ireturn, 1) := by decide +kernel
set_option maxRecDepth 20000 in
theorem ggX6_told_X6_heads : GoodIn wsX6_told wsX6_heads := goodIn_r _ [9, 1, 55, 56, 57, 58, 59, 60] (by decide +kernel) (by decide +kernel)
set_option maxRecDepth 20000 in
theorem gX6_told_X6_heads : GoodIn wsX6_told (wsV RX6 23 RX6 yX6_heads wsX6_heads) := goodIn_app (goodIn_of _ (by decide +kernel)) ggX6_told_X6_heads
set_option maxRecDepth 20000 in
theorem ggX6_told_X6_called : GoodIn wsX6_told wsX6_called := goodIn_r _ [13, 1, 55, 56, 57, 58, 59, 60] (by decide +kernel) (by decide +kernel)
set_option maxRecDepth 20000 in
theorem gX6_told_X6_called : GoodIn wsX6_told (wsV RX6 81 RX6 yX6_called wsX6_called) := goodIn_app (goodIn_of _ (by decide +kernel)) ggX6_told_X6_called
set_option maxRecDepth 20000 in
theorem ggX6_told_X6_setOf : GoodIn wsX6_told wsX6_setOf := goodIn_r _ [17, 1, 55, 56, 57, 58, 59, 60] (by decide +kernel) (by decide +kernel)
set_option maxRecDepth 20000 in
theorem gX6_told_X6_setOf : GoodIn wsX6_told (wsV RX6 85 RX6 yX6_setOf wsX6_setOf) := goodIn_app (goodIn_of _ (by decide +kernel)) ggX6_told_X6_setOf
set_option maxRecDepth 20000 in
theorem ggX6_told_X6_headSet : GoodIn wsX6_told wsX6_headSet := goodIn_r _ [21, 1, 5, 6, 7, 8, 9, 22, 23, 24, 25, 26, 27, 28, 29, 30, 31, 32, 33, 34, 35, 36, 37, 55, 56, 57, 58, 59, 60] (by decide +kernel) (by decide +kernel)
set_option maxRecDepth 20000 in
theorem gX6_told_X6_headSet : GoodIn wsX6_told (wsV RX6 88 RX6 yX6_headSet wsX6_headSet) := goodIn_app (goodIn_of _ (by decide +kernel)) ggX6_told_X6_headSet
set_option maxRecDepth 20000 in
theorem ggX6_told_X6_allOf : GoodIn wsX6_told wsX6_allOf := goodIn_r _ [41, 1, 55, 56, 57, 58, 59, 60] (by decide +kernel) (by decide +kernel)
set_option maxRecDepth 20000 in
theorem gX6_told_X6_allOf : GoodIn wsX6_told (wsV RX6 92 RX6 yX6_allOf wsX6_allOf) := goodIn_app (goodIn_of _ (by decide +kernel)) ggX6_told_X6_allOf
set_option maxRecDepth 20000 in
theorem ggX6_told_X6_wrongEntry : GoodIn wsX6_told wsX6_wrongEntry := goodIn_r _ [45, 2, 46, 1, 47, 48, 49, 50, 8, 51, 52, 53, 54, 55, 56, 57, 58, 59, 60] (by decide +kernel) (by decide +kernel)
set_option maxRecDepth 20000 in
theorem gX6_told_X6_wrongEntry : GoodIn wsX6_told (wsV RX6 95 RX6 yX6_wrongEntry wsX6_wrongEntry) := goodIn_app (goodIn_of _ (by decide +kernel)) ggX6_told_X6_wrongEntry
theorem dX6_told_0 : decode cX6_told 0 = .ok (.iload_n 1, 1) := by decide +kernel
theorem dX6_told_1 : decode cX6_told 1 = .ok (.tableswitch 169 0 16 #[83, 90, 95, 102, 109, 109, 109, 109, 118, 118, 124, 130, 136, 143, 154, 159, 164], 83) := by decide +kernel
theorem dX6_told_84 : decode cX6_told 84 = .ok (.aload_n 0, 1) := by decide +kernel
theorem dX6_told_85 : decode cX6_told 85 = .ok (.getfield 7, 3) := by decide +kernel
theorem dX6_told_88 : decode cX6_told 88 = .ok (.iconst 0, 1) := by decide +kernel
theorem dX6_told_89 : decode cX6_told 89 = .ok (.iaload, 1) := by decide +kernel
theorem dX6_told_90 : decode cX6_told 90 = .ok (.ireturn, 1) := by decide +kernel
theorem dX6_told_91 : decode cX6_told 91 = .ok (.aload_n 0, 1) := by decide +kernel
theorem dX6_told_92 : decode cX6_told 92 = .ok (.invokevirtual 23, 3) := by decide +kernel
theorem dX6_told_95 : decode cX6_told 95 = .ok (.ireturn, 1) := by decide +kernel
theorem dX6_told_96 : decode cX6_told 96 = .ok (.aload_n 0, 1) := by decide +kernel
theorem dX6_told_97 : decode cX6_told 97 = .ok (.getfield 7, 3) := by decide +kernel
theorem dX6_told_100 : decode cX6_told 100 = .ok (.iconst 1, 1) := by decide +kernel
theorem dX6_told_101 : decode cX6_told 101 = .ok (.iaload, 1) := by decide +kernel
theorem dX6_told_102 : decode cX6_told 102 = .ok (.ireturn, 1) := by decide +kernel
theorem dX6_told_103 : decode cX6_told 103 = .ok (.aload_n 0, 1) := by decide +kernel
theorem dX6_told_104 : decode cX6_told 104 = .ok (.getfield 7, 3) := by decide +kernel
theorem dX6_told_107 : decode cX6_told 107 = .ok (.iconst 2, 1) := by decide +kernel
theorem dX6_told_108 : decode cX6_told 108 = .ok (.iaload, 1) := by decide +kernel
theorem dX6_told_109 : decode cX6_told 109 = .ok (.ireturn, 1) := by decide +kernel
theorem dX6_told_110 : decode cX6_told 110 = .ok (.aload_n 0, 1) := by decide +kernel
theorem dX6_told_111 : decode cX6_told 111 = .ok (.iconst 0, 1) := by decide +kernel
theorem dX6_told_112 : decode cX6_told 112 = .ok (.iload_n 1, 1) := by decide +kernel
theorem dX6_told_113 : decode cX6_told 113 = .ok (.iconst 4, 1) := by decide +kernel
theorem dX6_told_114 : decode cX6_told 114 = .ok (.isub, 1) := by decide +kernel
theorem dX6_told_115 : decode cX6_told 115 = .ok (.invokevirtual 81, 3) := by decide +kernel
theorem dX6_told_118 : decode cX6_told 118 = .ok (.ireturn, 1) := by decide +kernel
theorem dX6_told_119 : decode cX6_told 119 = .ok (.aload_n 0, 1) := by decide +kernel
theorem dX6_told_120 : decode cX6_told 120 = .ok (.iload_n 1, 1) := by decide +kernel
theorem dX6_told_121 : decode cX6_told 121 = .ok (.invokevirtual 85, 3) := by decide +kernel
theorem dX6_told_124 : decode cX6_told 124 = .ok (.ireturn, 1) := by decide +kernel
theorem dX6_told_125 : decode cX6_told 125 = .ok (.aload_n 0, 1) := by decide +kernel
theorem dX6_told_126 : decode cX6_told 126 = .ok (.iconst 1, 1) := by decide +kernel
theorem dX6_told_127 : decode cX6_told 127 = .ok (.invokevirtual 88, 3) := by decide +kernel
theorem dX6_told_130 : decode cX6_told 130 = .ok (.ireturn, 1) := by decide +kernel
theorem dX6_told_131 : decode cX6_told 131 = .ok (.aload_n 0, 1) := by decide +kernel
theorem dX6_told_132 : decode cX6_told 132 = .ok (.iconst 0, 1) := by decide +kernel
theorem dX6_told_133 : decode cX6_told 133 = .ok (.invokevirtual 88, 3) := by decide +kernel
theorem dX6_told_136 : decode cX6_told 136 = .ok (.ireturn, 1) := by decide +kernel
theorem dX6_told_137 : decode cX6_told 137 = .ok (.aload_n 0, 1) := by decide +kernel
theorem dX6_told_138 : decode cX6_told 138 = .ok (.bipush 15, 2) := by decide +kernel
theorem dX6_told_140 : decode cX6_told 140 = .ok (.invokevirtual 92, 3) := by decide +kernel
theorem dX6_told_143 : decode cX6_told 143 = .ok (.ireturn, 1) := by decide +kernel
theorem dX6_told_144 : decode cX6_told 144 = .ok (.aload_n 0, 1) := by decide +kernel
theorem dX6_told_145 : decode cX6_told 145 = .ok (.bipush 9, 2) := by decide +kernel
theorem dX6_told_147 : decode cX6_told 147 = .ok (.invokevirtual 92, 3) := by decide +kernel
theorem dX6_told_150 : decode cX6_told 150 = .ok (.sipush 1000, 3) := by decide +kernel
theorem dX6_told_153 : decode cX6_told 153 = .ok (.iadd, 1) := by decide +kernel
theorem dX6_told_154 : decode cX6_told 154 = .ok (.ireturn, 1) := by decide +kernel
theorem dX6_told_155 : decode cX6_told 155 = .ok (.aload_n 0, 1) := by decide +kernel
theorem dX6_told_156 : decode cX6_told 156 = .ok (.getfield 74, 3) := by decide +kernel
theorem dX6_told_159 : decode cX6_told 159 = .ok (.ireturn, 1) := by decide +kernel
theorem dX6_told_160 : decode cX6_told 160 = .ok (.aload_n 0, 1) := by decide +kernel
theorem dX6_told_161 : decode cX6_told 161 = .ok (.invokevirtual 95, 3) := by decide +kernel
theorem dX6_told_164 : decode cX6_told 164 = .ok (.ireturn, 1) := by decide +kernel
theorem dX6_told_165 : decode cX6_told 165 = .ok (.aload_n 0, 1) := by decide +kernel
theorem dX6_told_166 : decode cX6_told 166 = .ok (.getfield 98, 3) := by decide +kernel
theorem dX6_told_169 : decode cX6_told 169 = .ok (.ireturn, 1) := by decide +kernel
theorem dX6_told_170 : decode cX6_told 170 = .ok (.ldc 101, 2) := by decide +kernel
theorem dX6_told_172 : decode cX6_told 172 = .ok (.ireturn, 1) := by decide +kernel
set_option maxRecDepth 20000 in
theorem ggX6_leftTelegrams_X6_rightHead : GoodIn wsX6_leftTelegrams wsX6_rightHead := goodIn_r _ [6, 1, 7, 8, 9, 10, 11, 12] (by decide +kernel) (by decide +kernel)
set_option maxRecDepth 20000 in
theorem gX6_leftTelegrams_X6_rightHead : GoodIn wsX6_leftTelegrams (wsV RX6 38 RX6 yX6_rightHead wsX6_rightHead) := goodIn_app (goodIn_of _ (by decide +kernel)) ggX6_leftTelegrams_X6_rightHead
theorem dX6_leftTelegrams_0 : decode cX6_leftTelegrams 0 = .ok (.aload_n 0, 1) := by decide +kernel
theorem dX6_leftTelegrams_1 : decode cX6_leftTelegrams 1 = .ok (.getfield 7, 3) := by decide +kernel
theorem dX6_leftTelegrams_4 : decode cX6_leftTelegrams 4 = .ok (.bipush 55, 2) := by decide +kernel
theorem dX6_leftTelegrams_6 : decode cX6_leftTelegrams 6 = .ok (.iload_n 1, 1) := by decide +kernel
theorem dX6_leftTelegrams_7 : decode cX6_leftTelegrams 7 = .ok (.iadd, 1) := by decide +kernel
theorem dX6_leftTelegrams_8 : decode cX6_leftTelegrams 8 = .ok (.iaload, 1) := by decide +kernel
theorem dX6_leftTelegrams_9 : decode cX6_leftTelegrams 9 = .ok (.iconst 3, 1) := by decide +kernel
theorem dX6_leftTelegrams_10 : decode cX6_leftTelegrams 10 = .ok (.if_icmp .le 7, 3) := by decide +kernel
theorem dX6_leftTelegrams_13 : decode cX6_leftTelegrams 13 = .ok (.iconst 0, 1) := by decide +kernel
theorem dX6_leftTelegrams_14 : decode cX6_leftTelegrams 14 = .ok (.goto 14, 3) := by decide +kernel
theorem dX6_leftTelegrams_17 : decode cX6_leftTelegrams 17 = .ok (.iconst 4, 1) := by decide +kernel
theorem dX6_leftTelegrams_18 : decode cX6_leftTelegrams 18 = .ok (.aload_n 0, 1) := by decide +kernel
theorem dX6_leftTelegrams_19 : decode cX6_leftTelegrams 19 = .ok (.getfield 7, 3) := by decide +kernel
theorem dX6_leftTelegrams_22 : decode cX6_leftTelegrams 22 = .ok (.bipush 55, 2) := by decide +kernel
theorem dX6_leftTelegrams_24 : decode cX6_leftTelegrams 24 = .ok (.iload_n 1, 1) := by decide +kernel
theorem dX6_leftTelegrams_25 : decode cX6_leftTelegrams 25 = .ok (.iadd, 1) := by decide +kernel
theorem dX6_leftTelegrams_26 : decode cX6_leftTelegrams 26 = .ok (.iaload, 1) := by decide +kernel
theorem dX6_leftTelegrams_27 : decode cX6_leftTelegrams 27 = .ok (.isub, 1) := by decide +kernel
theorem dX6_leftTelegrams_28 : decode cX6_leftTelegrams 28 = .ok (.istore_n 2, 1) := by decide +kernel
theorem dX6_leftTelegrams_29 : decode cX6_leftTelegrams 29 = .ok (.aload_n 0, 1) := by decide +kernel
theorem dX6_leftTelegrams_30 : decode cX6_leftTelegrams 30 = .ok (.getfield 7, 3) := by decide +kernel
theorem dX6_leftTelegrams_33 : decode cX6_leftTelegrams 33 = .ok (.bipush 55, 2) := by decide +kernel
theorem dX6_leftTelegrams_35 : decode cX6_leftTelegrams 35 = .ok (.aload_n 0, 1) := by decide +kernel
theorem dX6_leftTelegrams_36 : decode cX6_leftTelegrams 36 = .ok (.iload_n 1, 1) := by decide +kernel
theorem dX6_leftTelegrams_37 : decode cX6_leftTelegrams 37 = .ok (.invokevirtual 38, 3) := by decide +kernel
theorem dX6_leftTelegrams_40 : decode cX6_leftTelegrams 40 = .ok (.iadd, 1) := by decide +kernel
theorem dX6_leftTelegrams_41 : decode cX6_leftTelegrams 41 = .ok (.iaload, 1) := by decide +kernel
theorem dX6_leftTelegrams_42 : decode cX6_leftTelegrams 42 = .ok (.iconst 3, 1) := by decide +kernel
theorem dX6_leftTelegrams_43 : decode cX6_leftTelegrams 43 = .ok (.if_icmp .le 7, 3) := by decide +kernel
theorem dX6_leftTelegrams_46 : decode cX6_leftTelegrams 46 = .ok (.iconst 0, 1) := by decide +kernel
theorem dX6_leftTelegrams_47 : decode cX6_leftTelegrams 47 = .ok (.goto 18, 3) := by decide +kernel
theorem dX6_leftTelegrams_50 : decode cX6_leftTelegrams 50 = .ok (.iconst 4, 1) := by decide +kernel
theorem dX6_leftTelegrams_51 : decode cX6_leftTelegrams 51 = .ok (.aload_n 0, 1) := by decide +kernel
theorem dX6_leftTelegrams_52 : decode cX6_leftTelegrams 52 = .ok (.getfield 7, 3) := by decide +kernel
theorem dX6_leftTelegrams_55 : decode cX6_leftTelegrams 55 = .ok (.bipush 55, 2) := by decide +kernel
theorem dX6_leftTelegrams_57 : decode cX6_leftTelegrams 57 = .ok (.aload_n 0, 1) := by decide +kernel
theorem dX6_leftTelegrams_58 : decode cX6_leftTelegrams 58 = .ok (.iload_n 1, 1) := by decide +kernel
theorem dX6_leftTelegrams_59 : decode cX6_leftTelegrams 59 = .ok (.invokevirtual 38, 3) := by decide +kernel
theorem dX6_leftTelegrams_62 : decode cX6_leftTelegrams 62 = .ok (.iadd, 1) := by decide +kernel
theorem dX6_leftTelegrams_63 : decode cX6_leftTelegrams 63 = .ok (.iaload, 1) := by decide +kernel
theorem dX6_leftTelegrams_64 : decode cX6_leftTelegrams 64 = .ok (.isub, 1) := by decide +kernel
theorem dX6_leftTelegrams_65 : decode cX6_leftTelegrams 65 = .ok (.istore_n 3, 1) := by decide +kernel
theorem dX6_leftTelegrams_66 : decode cX6_leftTelegrams 66 = .ok (.iload_n 2, 1) := by decide +kernel
theorem dX6_leftTelegrams_67 : decode cX6_leftTelegrams 67 = .ok (.iload_n 3, 1) := by decide +kernel
theorem dX6_leftTelegrams_68 : decode cX6_leftTelegrams 68 = .ok (.if_icmp .ge 7, 3) := by decide +kernel
theorem dX6_leftTelegrams_71 : decode cX6_leftTelegrams 71 = .ok (.iload_n 2, 1) := by decide +kernel
theorem dX6_leftTelegrams_72 : decode cX6_leftTelegrams 72 = .ok (.goto 4, 3) := by decide +kernel
theorem dX6_leftTelegrams_75 : decode cX6_leftTelegrams 75 = .ok (.iload_n 3, 1) := by decide +kernel
theorem dX6_leftTelegrams_76 : decode cX6_leftTelegrams 76 = .ok (.ireturn, 1) := by decide +kernel
theorem dX6_run_0 : decode cX6_run 0 = .ok (.iconst 0, 1) := by decide +kernel
theorem dX6_run_1 : decode cX6_run 1 = .ok (.istore_n 2, 1) := by decide +kernel
theorem dX6_run_2 : decode cX6_run 2 = .ok (.iload_n 1, 1) := by decide +kernel
theorem dX6_run_3 : decode cX6_run 3 = .ok (.istore_n 3, 1) := by decide +kernel
theorem dX6_run_4 : decode cX6_run 4 = .ok (.iload_n 2, 1) := by decide +kernel
theorem dX6_run_5 : decode cX6_run 5 = .ok (.aload_n 0, 1) := by decide +kernel
theorem dX6_run_6 : decode cX6_run 6 = .ok (.getfield 7, 3) := by decide +kernel
theorem dX6_run_9 : decode cX6_run 9 = .ok (.iconst 0, 1) := by decide +kernel
theorem dX6_run_10 : decode cX6_run 10 = .ok (.iaload, 1) := by decide +kernel
theorem dX6_run_11 : decode cX6_run 11 = .ok (.if_icmp .ge 57, 3) := by decide +kernel
theorem dX6_run_14 : decode cX6_run 14 = .ok (.iload_n 3, 1) := by decide +kernel
theorem dX6_run_15 : decode cX6_run 15 = .ok (.aload_n 0, 1) := by decide +kernel
theorem dX6_run_16 : decode cX6_run 16 = .ok (.getfield 7, 3) := by decide +kernel
theorem dX6_run_19 : decode cX6_run 19 = .ok (.iconst 0, 1) := by decide +kernel
theorem dX6_run_20 : decode cX6_run 20 = .ok (.iaload, 1) := by decide +kernel
theorem dX6_run_21 : decode cX6_run 21 = .ok (.if_icmp .ge 47, 3) := by decide +kernel
theorem dX6_run_24 : decode cX6_run 24 = .ok (.aload_n 0, 1) := by decide +kernel
theorem dX6_run_25 : decode cX6_run 25 = .ok (.getfield 7, 3) := by decide +kernel
theorem dX6_run_28 : decode cX6_run 28 = .ok (.iconst 3, 1) := by decide +kernel
theorem dX6_run_29 : decode cX6_run 29 = .ok (.iload_n 3, 1) := by decide +kernel
theorem dX6_run_30 : decode cX6_run 30 = .ok (.iadd, 1) := by decide +kernel
end
section
theorem dX6_run_31 : decode cX6_run 31 = .ok (.iaload, 1) := by decide +kernel
theorem dX6_run_32 : decode cX6_run 32 = .ok (.ifCond .ne 36, 3) := by decide +kernel
theorem dX6_run_35 : decode cX6_run 35 = .ok (.iinc 2 1, 3) := by decide +kernel
theorem dX6_run_38 : decode cX6_run 38 = .ok (.aload_n 0, 1) := by decide +kernel
theorem dX6_run_39 : decode cX6_run 39 = .ok (.getfield 7, 3) := by decide +kernel
theorem dX6_run_42 : decode cX6_run 42 = .ok (.iconst 1, 1) := by decide +kernel
theorem dX6_run_43 : decode cX6_run 43 = .ok (.iaload, 1) := by decide +kernel
theorem dX6_run_44 : decode cX6_run 44 = .ok (.iconst 1, 1) := by decide +kernel
theorem dX6_run_45 : decode cX6_run 45 = .ok (.if_icmp .ne 16, 3) := by decide +kernel
theorem dX6_run_48 : decode cX6_run 48 = .ok (.iload_n 3, 1) := by decide +kernel
theorem dX6_run_49 : decode cX6_run 49 = .ok (.iconst 1, 1) := by decide +kernel
theorem dX6_run_50 : decode cX6_run 50 = .ok (.iadd, 1) := by decide +kernel
theorem dX6_run_51 : decode cX6_run 51 = .ok (.aload_n 0, 1) := by decide +kernel
theorem dX6_run_52 : decode cX6_run 52 = .ok (.getfield 7, 3) := by decide +kernel
theorem dX6_run_55 : decode cX6_run 55 = .ok (.iconst 0, 1) := by decide +kernel
theorem dX6_run_56 : decode cX6_run 56 = .ok (.iaload, 1) := by decide +kernel
theorem dX6_run_57 : decode cX6_run 57 = .ok (.irem, 1) := by decide +kernel
theorem dX6_run_58 : decode cX6_run 58 = .ok (.goto 6, 3) := by decide +kernel
theorem dX6_run_61 : decode cX6_run 61 = .ok (.iload_n 3, 1) := by decide +kernel
theorem dX6_run_62 : decode cX6_run 62 = .ok (.iconst 1, 1) := by decide +kernel
theorem dX6_run_63 : decode cX6_run 63 = .ok (.iadd, 1) := by decide +kernel
theorem dX6_run_64 : decode cX6_run 64 = .ok (.istore_n 3, 1) := by decide +kernel
theorem dX6_run_65 : decode cX6_run 65 = .ok (.goto (-61), 3) := by decide +kernel
theorem dX6_run_68 : decode cX6_run 68 = .ok (.iload_n 2, 1) := by decide +kernel
theorem dX6_run_69 : decode cX6_run 69 = .ok (.ireturn, 1) := by decide +kernel
set_option maxRecDepth 20000 in
theorem ggX6_section_X6_isSection : GoodIn wsX6_section wsX6_isSection := goodIn_r _ [8, 2, 9, 10, 7, 11, 36, 37, 38, 39, 40, 41] (by decide +kernel) (by decide +kernel)
set_option maxRecDepth 20000 in
theorem gX6_section_X6_isSection : GoodIn wsX6_section (wsV RX6 78 RX6 yX6_isSection wsX6_isSection) := goodIn_app (goodIn_of _ (by decide +kernel)) ggX6_section_X6_isSection
set_option maxRecDepth 20000 in
theorem ggX6_section_X6_isTrouble : GoodIn wsX6_section wsX6_isTrouble := goodIn_r _ [15, 2, 16, 17, 18, 7, 19, 20, 21, 22, 23, 24, 25, 26, 27, 36, 37, 38, 39, 40, 41] (by decide +kernel) (by decide +kernel)
set_option maxRecDepth 20000 in
theorem gX6_section_X6_isTrouble : GoodIn wsX6_section (wsV RX6 44 RX6 yX6_isTrouble wsX6_isTrouble) := goodIn_app (goodIn_of _ (by decide +kernel)) ggX6_section_X6_isTrouble
set_option maxRecDepth 20000 in
theorem ggX6_section_X6_leftTelegrams : GoodIn wsX6_section wsX6_leftTelegrams := goodIn_r _ [31, 2, 24, 25, 26, 7, 27, 36, 37, 38, 39, 40, 41] (by decide +kernel) (by decide +kernel)
set_option maxRecDepth 20000 in
theorem gX6_section_X6_leftTelegrams : GoodIn wsX6_section (wsV RX6 103 RX6 yX6_leftTelegrams wsX6_leftTelegrams) := goodIn_app (goodIn_of _ (by decide +kernel)) ggX6_section_X6_leftTelegrams
set_option maxRecDepth 20000 in
theorem ggX6_section_X6_run : GoodIn wsX6_section wsX6_run := goodIn_r _ [35, 2, 36, 37, 38, 39, 40, 41] (by decide +kernel) (by decide +kernel)
set_option maxRecDepth 20000 in
theorem gX6_section_X6_run : GoodIn wsX6_section (wsV RX6 106 RX6 yX6_run wsX6_run) := goodIn_app (goodIn_of _ (by decide +kernel)) ggX6_section_X6_run
theorem dX6_section_0 : decode cX6_section 0 = .ok (.aload_n 0, 1) := by decide +kernel
theorem dX6_section_1 : decode cX6_section 1 = .ok (.iload_n 1, 1) := by decide +kernel
theorem dX6_section_2 : decode cX6_section 2 = .ok (.invokevirtual 78, 3) := by decide +kernel
theorem dX6_section_5 : decode cX6_section 5 = .ok (.ifCond .ne 6, 3) := by decide +kernel
theorem dX6_section_8 : decode cX6_section 8 = .ok (.ldc 102, 2) := by decide +kernel
theorem dX6_section_10 : decode cX6_section 10 = .ok (.ireturn, 1) := by decide +kernel
theorem dX6_section_11 : decode cX6_section 11 = .ok (.iload_n 2, 1) := by decide +kernel
theorem dX6_section_12 : decode cX6_section 12 = .ok (.tableswitch 114 0 6 #[44, 53, 67, 77, 92, 102, 108], 44) := by decide +kernel
theorem dX6_section_56 : decode cX6_section 56 = .ok (.aload_n 0, 1) := by decide +kernel
theorem dX6_section_57 : decode cX6_section 57 = .ok (.getfield 7, 3) := by decide +kernel
theorem dX6_section_60 : decode cX6_section 60 = .ok (.iconst 3, 1) := by decide +kernel
theorem dX6_section_61 : decode cX6_section 61 = .ok (.iload_n 1, 1) := by decide +kernel
theorem dX6_section_62 : decode cX6_section 62 = .ok (.iadd, 1) := by decide +kernel
theorem dX6_section_63 : decode cX6_section 63 = .ok (.iaload, 1) := by decide +kernel
theorem dX6_section_64 : decode cX6_section 64 = .ok (.ireturn, 1) := by decide +kernel
theorem dX6_section_65 : decode cX6_section 65 = .ok (.aload_n 0, 1) := by decide +kernel
theorem dX6_section_66 : decode cX6_section 66 = .ok (.getfield 7, 3) := by decide +kernel
theorem dX6_section_69 : decode cX6_section 69 = .ok (.bipush 9, 2) := by decide +kernel
theorem dX6_section_71 : decode cX6_section 71 = .ok (.iload_n 1, 1) := by decide +kernel
theorem dX6_section_72 : decode cX6_section 72 = .ok (.iadd, 1) := by decide +kernel
theorem dX6_section_73 : decode cX6_section 73 = .ok (.iaload, 1) := by decide +kernel
theorem dX6_section_74 : decode cX6_section 74 = .ok (.sipush 1000, 3) := by decide +kernel
theorem dX6_section_77 : decode cX6_section 77 = .ok (.iadd, 1) := by decide +kernel
theorem dX6_section_78 : decode cX6_section 78 = .ok (.ireturn, 1) := by decide +kernel
theorem dX6_section_79 : decode cX6_section 79 = .ok (.aload_n 0, 1) := by decide +kernel
theorem dX6_section_80 : decode cX6_section 80 = .ok (.getfield 7, 3) := by decide +kernel
theorem dX6_section_83 : decode cX6_section 83 = .ok (.bipush 15, 2) := by decide +kernel
theorem dX6_section_85 : decode cX6_section 85 = .ok (.iload_n 1, 1) := by decide +kernel
theorem dX6_section_86 : decode cX6_section 86 = .ok (.iadd, 1) := by decide +kernel
theorem dX6_section_87 : decode cX6_section 87 = .ok (.iaload, 1) := by decide +kernel
theorem dX6_section_88 : decode cX6_section 88 = .ok (.ireturn, 1) := by decide +kernel
theorem dX6_section_89 : decode cX6_section 89 = .ok (.aload_n 0, 1) := by decide +kernel
theorem dX6_section_90 : decode cX6_section 90 = .ok (.iconst 0, 1) := by decide +kernel
theorem dX6_section_91 : decode cX6_section 91 = .ok (.iload_n 1, 1) := by decide +kernel
theorem dX6_section_92 : decode cX6_section 92 = .ok (.invokevirtual 44, 3) := by decide +kernel
theorem dX6_section_95 : decode cX6_section 95 = .ok (.ifCond .eq 7, 3) := by decide +kernel
theorem dX6_section_98 : decode cX6_section 98 = .ok (.iconst 1, 1) := by decide +kernel
theorem dX6_section_99 : decode cX6_section 99 = .ok (.goto 4, 3) := by decide +kernel
theorem dX6_section_102 : decode cX6_section 102 = .ok (.iconst 0, 1) := by decide +kernel
theorem dX6_section_103 : decode cX6_section 103 = .ok (.ireturn, 1) := by decide +kernel
theorem dX6_section_104 : decode cX6_section 104 = .ok (.aload_n 0, 1) := by decide +kernel
theorem dX6_section_105 : decode cX6_section 105 = .ok (.getfield 7, 3) := by decide +kernel
theorem dX6_section_108 : decode cX6_section 108 = .ok (.bipush 21, 2) := by decide +kernel
theorem dX6_section_110 : decode cX6_section 110 = .ok (.iload_n 1, 1) := by decide +kernel
theorem dX6_section_111 : decode cX6_section 111 = .ok (.iadd, 1) := by decide +kernel
theorem dX6_section_112 : decode cX6_section 112 = .ok (.iaload, 1) := by decide +kernel
theorem dX6_section_113 : decode cX6_section 113 = .ok (.ireturn, 1) := by decide +kernel
theorem dX6_section_114 : decode cX6_section 114 = .ok (.aload_n 0, 1) := by decide +kernel
theorem dX6_section_115 : decode cX6_section 115 = .ok (.iload_n 1, 1) := by decide +kernel
theorem dX6_section_116 : decode cX6_section 116 = .ok (.invokevirtual 103, 3) := by decide +kernel
theorem dX6_section_119 : decode cX6_section 119 = .ok (.ireturn, 1) := by decide +kernel
theorem dX6_section_120 : decode cX6_section 120 = .ok (.aload_n 0, 1) := by decide +kernel
theorem dX6_section_121 : decode cX6_section 121 = .ok (.iload_n 1, 1) := by decide +kernel
theorem dX6_section_122 : decode cX6_section 122 = .ok (.invokevirtual 106, 3) := by decide +kernel
theorem dX6_section_125 : decode cX6_section 125 = .ok (.ireturn, 1) := by decide +kernel
theorem dX6_section_126 : decode cX6_section 126 = .ok (.ldc 101, 2) := by decide +kernel
theorem dX6_section_128 : decode cX6_section 128 = .ok (.ireturn, 1) := by decide +kernel
set_option maxRecDepth 20000 in
theorem ggX6_joint_X6_isJoint : GoodIn wsX6_joint wsX6_isJoint := goodIn_r _ [6, 7, 8, 9, 5, 10, 1, 11, 12, 13, 14, 15, 16, 17, 18, 19, 20] (by decide +kernel) (by decide +kernel)
set_option maxRecDepth 20000 in
theorem gX6_joint_X6_isJoint : GoodIn wsX6_joint (wsV RX6 61 RX6 yX6_isJoint wsX6_isJoint) := goodIn_app (goodIn_of _ (by decide +kernel)) ggX6_joint_X6_isJoint
set_option maxRecDepth 20000 in
theorem ggX6_joint_X6_leftOf : GoodIn wsX6_joint wsX6_leftOf := goodIn_r _ [10, 1, 15, 16, 17, 18, 19, 20] (by decide +kernel) (by decide +kernel)
set_option maxRecDepth 20000 in
theorem gX6_joint_X6_leftOf : GoodIn wsX6_joint (wsV RX6 31 RX6 yX6_leftOf wsX6_leftOf) := goodIn_app (goodIn_of _ (by decide +kernel)) ggX6_joint_X6_leftOf
set_option maxRecDepth 20000 in
theorem ggX6_joint_X6_rightOf : GoodIn wsX6_joint wsX6_rightOf := goodIn_r _ [14, 1, 15, 16, 17, 18, 19, 20] (by decide +kernel) (by decide +kernel)
set_option maxRecDepth 20000 in
theorem gX6_joint_X6_rightOf : GoodIn wsX6_joint (wsV RX6 27 RX6 yX6_rightOf wsX6_rightOf) := goodIn_app (goodIn_of _ (by decide +kernel)) ggX6_joint_X6_rightOf
theorem dX6_joint_0 : decode cX6_joint 0 = .ok (.aload_n 0, 1) := by decide +kernel
theorem dX6_joint_1 : decode cX6_joint 1 = .ok (.iload_n 1, 1) := by decide +kernel
theorem dX6_joint_2 : decode cX6_joint 2 = .ok (.invokevirtual 61, 3) := by decide +kernel
theorem dX6_joint_5 : decode cX6_joint 5 = .ok (.ifCond .eq 37, 3) := by decide +kernel
theorem dX6_joint_8 : decode cX6_joint 8 = .ok (.aload_n 0, 1) := by decide +kernel
theorem dX6_joint_9 : decode cX6_joint 9 = .ok (.getfield 7, 3) := by decide +kernel
theorem dX6_joint_12 : decode cX6_joint 12 = .ok (.bipush 9, 2) := by decide +kernel
theorem dX6_joint_14 : decode cX6_joint 14 = .ok (.aload_n 0, 1) := by decide +kernel
theorem dX6_joint_15 : decode cX6_joint 15 = .ok (.iload_n 1, 1) := by decide +kernel
theorem dX6_joint_16 : decode cX6_joint 16 = .ok (.invokevirtual 31, 3) := by decide +kernel
theorem dX6_joint_19 : decode cX6_joint 19 = .ok (.iadd, 1) := by decide +kernel
theorem dX6_joint_20 : decode cX6_joint 20 = .ok (.iaload, 1) := by decide +kernel
theorem dX6_joint_21 : decode cX6_joint 21 = .ok (.aload_n 0, 1) := by decide +kernel
theorem dX6_joint_22 : decode cX6_joint 22 = .ok (.getfield 7, 3) := by decide +kernel
theorem dX6_joint_25 : decode cX6_joint 25 = .ok (.bipush 9, 2) := by decide +kernel
theorem dX6_joint_27 : decode cX6_joint 27 = .ok (.aload_n 0, 1) := by decide +kernel
theorem dX6_joint_28 : decode cX6_joint 28 = .ok (.iload_n 1, 1) := by decide +kernel
theorem dX6_joint_29 : decode cX6_joint 29 = .ok (.invokevirtual 27, 3) := by decide +kernel
theorem dX6_joint_32 : decode cX6_joint 32 = .ok (.iadd, 1) := by decide +kernel
theorem dX6_joint_33 : decode cX6_joint 33 = .ok (.iaload, 1) := by decide +kernel
theorem dX6_joint_34 : decode cX6_joint 34 = .ok (.iadd, 1) := by decide +kernel
theorem dX6_joint_35 : decode cX6_joint 35 = .ok (.sipush 2000, 3) := by decide +kernel
theorem dX6_joint_38 : decode cX6_joint 38 = .ok (.iadd, 1) := by decide +kernel
theorem dX6_joint_39 : decode cX6_joint 39 = .ok (.goto 4, 3) := by decide +kernel
theorem dX6_joint_42 : decode cX6_joint 42 = .ok (.iconst (-1), 1) := by decide +kernel
theorem dX6_joint_43 : decode cX6_joint 43 = .ok (.ireturn, 1) := by decide +kernel
set_option maxRecDepth 20000 in
theorem ggX6_head_X6_isHead : GoodIn wsX6_head wsX6_isHead := goodIn_r _ [8, 9, 10, 11, 7, 12, 2, 13, 14, 15, 40, 41, 42, 43, 44, 45] (by decide +kernel) (by decide +kernel)
set_option maxRecDepth 20000 in
theorem gX6_head_X6_isHead : GoodIn wsX6_head (wsV RX6 109 RX6 yX6_isHead wsX6_isHead) := goodIn_app (goodIn_of _ (by decide +kernel)) ggX6_head_X6_isHead
set_option maxRecDepth 20000 in
theorem ggX6_head_X6_joint : GoodIn wsX6_head wsX6_joint := goodIn_r _ [19, 2, 20, 21, 22, 7, 23, 24, 25, 26, 27, 28, 29, 30, 31, 40, 41, 42, 43, 44, 45] (by decide +kernel) (by decide +kernel)
set_option maxRecDepth 20000 in
theorem gX6_head_X6_joint : GoodIn wsX6_head (wsV RX6 112 RX6 yX6_joint wsX6_joint) := goodIn_app (goodIn_of _ (by decide +kernel)) ggX6_head_X6_joint
set_option maxRecDepth 20000 in
theorem ggX6_head_X6_byHowMuch : GoodIn wsX6_head wsX6_byHowMuch := goodIn_r _ [35, 2, 36, 37, 38, 7, 39, 28, 29, 30, 31, 24, 25, 26, 27, 40, 41, 42, 43, 44, 45] (by decide +kernel) (by decide +kernel)
set_option maxRecDepth 20000 in
theorem gX6_head_X6_byHowMuch : GoodIn wsX6_head (wsV RX6 71 RX6 yX6_byHowMuch wsX6_byHowMuch) := goodIn_app (goodIn_of _ (by decide +kernel)) ggX6_head_X6_byHowMuch
theorem dX6_head_0 : decode cX6_head 0 = .ok (.aload_n 0, 1) := by decide +kernel
theorem dX6_head_1 : decode cX6_head 1 = .ok (.iload_n 1, 1) := by decide +kernel
theorem dX6_head_2 : decode cX6_head 2 = .ok (.invokevirtual 109, 3) := by decide +kernel
theorem dX6_head_5 : decode cX6_head 5 = .ok (.ifCond .ne 6, 3) := by decide +kernel
theorem dX6_head_8 : decode cX6_head 8 = .ok (.ldc 102, 2) := by decide +kernel
theorem dX6_head_10 : decode cX6_head 10 = .ok (.ireturn, 1) := by decide +kernel
theorem dX6_head_11 : decode cX6_head 11 = .ok (.iload_n 2, 1) := by decide +kernel
theorem dX6_head_12 : decode cX6_head 12 = .ok (.tableswitch 169 0 9 #[56, 66, 78, 92, 102, 112, 122, 132, 142, 148], 56) := by decide +kernel
theorem dX6_head_68 : decode cX6_head 68 = .ok (.aload_n 0, 1) := by decide +kernel
theorem dX6_head_69 : decode cX6_head 69 = .ok (.getfield 7, 3) := by decide +kernel
theorem dX6_head_72 : decode cX6_head 72 = .ok (.bipush 27, 2) := by decide +kernel
theorem dX6_head_74 : decode cX6_head 74 = .ok (.iload_n 1, 1) := by decide +kernel
theorem dX6_head_75 : decode cX6_head 75 = .ok (.iadd, 1) := by decide +kernel
theorem dX6_head_76 : decode cX6_head 76 = .ok (.iaload, 1) := by decide +kernel
theorem dX6_head_77 : decode cX6_head 77 = .ok (.ireturn, 1) := by decide +kernel
theorem dX6_head_78 : decode cX6_head 78 = .ok (.aload_n 0, 1) := by decide +kernel
theorem dX6_head_79 : decode cX6_head 79 = .ok (.getfield 7, 3) := by decide +kernel
theorem dX6_head_82 : decode cX6_head 82 = .ok (.bipush 34, 2) := by decide +kernel
theorem dX6_head_84 : decode cX6_head 84 = .ok (.iload_n 1, 1) := by decide +kernel
theorem dX6_head_85 : decode cX6_head 85 = .ok (.iadd, 1) := by decide +kernel
theorem dX6_head_86 : decode cX6_head 86 = .ok (.iaload, 1) := by decide +kernel
theorem dX6_head_87 : decode cX6_head 87 = .ok (.iconst 4, 1) := by decide +kernel
theorem dX6_head_88 : decode cX6_head 88 = .ok (.iadd, 1) := by decide +kernel
theorem dX6_head_89 : decode cX6_head 89 = .ok (.ireturn, 1) := by decide +kernel
theorem dX6_head_90 : decode cX6_head 90 = .ok (.aload_n 0, 1) := by decide +kernel
theorem dX6_head_91 : decode cX6_head 91 = .ok (.getfield 7, 3) := by decide +kernel
theorem dX6_head_94 : decode cX6_head 94 = .ok (.bipush 41, 2) := by decide +kernel
theorem dX6_head_96 : decode cX6_head 96 = .ok (.iload_n 1, 1) := by decide +kernel
theorem dX6_head_97 : decode cX6_head 97 = .ok (.iadd, 1) := by decide +kernel
theorem dX6_head_98 : decode cX6_head 98 = .ok (.iaload, 1) := by decide +kernel
theorem dX6_head_99 : decode cX6_head 99 = .ok (.sipush 10000, 3) := by decide +kernel
theorem dX6_head_102 : decode cX6_head 102 = .ok (.iadd, 1) := by decide +kernel
theorem dX6_head_103 : decode cX6_head 103 = .ok (.ireturn, 1) := by decide +kernel
theorem dX6_head_104 : decode cX6_head 104 = .ok (.aload_n 0, 1) := by decide +kernel
theorem dX6_head_105 : decode cX6_head 105 = .ok (.getfield 7, 3) := by decide +kernel
theorem dX6_head_108 : decode cX6_head 108 = .ok (.bipush 48, 2) := by decide +kernel
theorem dX6_head_110 : decode cX6_head 110 = .ok (.iload_n 1, 1) := by decide +kernel
theorem dX6_head_111 : decode cX6_head 111 = .ok (.iadd, 1) := by decide +kernel
theorem dX6_head_112 : decode cX6_head 112 = .ok (.iaload, 1) := by decide +kernel
theorem dX6_head_113 : decode cX6_head 113 = .ok (.ireturn, 1) := by decide +kernel
theorem dX6_head_114 : decode cX6_head 114 = .ok (.aload_n 0, 1) := by decide +kernel
theorem dX6_head_115 : decode cX6_head 115 = .ok (.getfield 7, 3) := by decide +kernel
theorem dX6_head_118 : decode cX6_head 118 = .ok (.bipush 55, 2) := by decide +kernel
theorem dX6_head_120 : decode cX6_head 120 = .ok (.iload_n 1, 1) := by decide +kernel
theorem dX6_head_121 : decode cX6_head 121 = .ok (.iadd, 1) := by decide +kernel
theorem dX6_head_122 : decode cX6_head 122 = .ok (.iaload, 1) := by decide +kernel
theorem dX6_head_123 : decode cX6_head 123 = .ok (.ireturn, 1) := by decide +kernel
theorem dX6_head_124 : decode cX6_head 124 = .ok (.aload_n 0, 1) := by decide +kernel
theorem dX6_head_125 : decode cX6_head 125 = .ok (.getfield 7, 3) := by decide +kernel
theorem dX6_head_128 : decode cX6_head 128 = .ok (.bipush 62, 2) := by decide +kernel
theorem dX6_head_130 : decode cX6_head 130 = .ok (.iload_n 1, 1) := by decide +kernel
theorem dX6_head_131 : decode cX6_head 131 = .ok (.iadd, 1) := by decide +kernel
theorem dX6_head_132 : decode cX6_head 132 = .ok (.iaload, 1) := by decide +kernel
theorem dX6_head_133 : decode cX6_head 133 = .ok (.ireturn, 1) := by decide +kernel
theorem dX6_head_134 : decode cX6_head 134 = .ok (.aload_n 0, 1) := by decide +kernel
theorem dX6_head_135 : decode cX6_head 135 = .ok (.getfield 7, 3) := by decide +kernel
theorem dX6_head_138 : decode cX6_head 138 = .ok (.bipush 69, 2) := by decide +kernel
theorem dX6_head_140 : decode cX6_head 140 = .ok (.iload_n 1, 1) := by decide +kernel
theorem dX6_head_141 : decode cX6_head 141 = .ok (.iadd, 1) := by decide +kernel
theorem dX6_head_142 : decode cX6_head 142 = .ok (.iaload, 1) := by decide +kernel
theorem dX6_head_143 : decode cX6_head 143 = .ok (.ireturn, 1) := by decide +kernel
theorem dX6_head_144 : decode cX6_head 144 = .ok (.aload_n 0, 1) := by decide +kernel
theorem dX6_head_145 : decode cX6_head 145 = .ok (.getfield 7, 3) := by decide +kernel
theorem dX6_head_148 : decode cX6_head 148 = .ok (.bipush 76, 2) := by decide +kernel
theorem dX6_head_150 : decode cX6_head 150 = .ok (.iload_n 1, 1) := by decide +kernel
theorem dX6_head_151 : decode cX6_head 151 = .ok (.iadd, 1) := by decide +kernel
theorem dX6_head_152 : decode cX6_head 152 = .ok (.iaload, 1) := by decide +kernel
theorem dX6_head_153 : decode cX6_head 153 = .ok (.ireturn, 1) := by decide +kernel
theorem dX6_head_154 : decode cX6_head 154 = .ok (.aload_n 0, 1) := by decide +kernel
theorem dX6_head_155 : decode cX6_head 155 = .ok (.iload_n 1, 1) := by decide +kernel
theorem dX6_head_156 : decode cX6_head 156 = .ok (.invokevirtual 112, 3) := by decide +kernel
theorem dX6_head_159 : decode cX6_head 159 = .ok (.ireturn, 1) := by decide +kernel
theorem dX6_head_160 : decode cX6_head 160 = .ok (.aload_n 0, 1) := by decide +kernel
theorem dX6_head_161 : decode cX6_head 161 = .ok (.iload_n 1, 1) := by decide +kernel
theorem dX6_head_162 : decode cX6_head 162 = .ok (.invokevirtual 71, 3) := by decide +kernel
theorem dX6_head_165 : decode cX6_head 165 = .ok (.ifCond .ne 7, 3) := by decide +kernel
theorem dX6_head_168 : decode cX6_head 168 = .ok (.iconst (-1), 1) := by decide +kernel
theorem dX6_head_169 : decode cX6_head 169 = .ok (.goto 11, 3) := by decide +kernel
theorem dX6_head_172 : decode cX6_head 172 = .ok (.aload_n 0, 1) := by decide +kernel
theorem dX6_head_173 : decode cX6_head 173 = .ok (.iload_n 1, 1) := by decide +kernel
theorem dX6_head_174 : decode cX6_head 174 = .ok (.invokevirtual 71, 3) := by decide +kernel
theorem dX6_head_177 : decode cX6_head 177 = .ok (.bipush 10, 2) := by decide +kernel
theorem dX6_head_179 : decode cX6_head 179 = .ok (.iadd, 1) := by decide +kernel
theorem dX6_head_180 : decode cX6_head 180 = .ok (.ireturn, 1) := by decide +kernel
theorem dX6_head_181 : decode cX6_head 181 = .ok (.ldc 101, 2) := by decide +kernel
theorem dX6_head_183 : decode cX6_head 183 = .ok (.ireturn, 1) := by decide +kernel
set_option maxRecDepth 20000 in
theorem ggX6_remember_X6_copyRow : GoodIn wsX6_remember wsX6_copyRow := goodIn_r _ [6, 7, 8, 9, 10, 11, 12, 13] (by decide +kernel) (by decide +kernel)
set_option maxRecDepth 20000 in
theorem gX6_remember_X6_copyRow : GoodIn wsX6_remember (wsV RX6 115 RX6 yX6_copyRow wsX6_copyRow) := goodIn_app (goodIn_of _ (by decide +kernel)) ggX6_remember_X6_copyRow
theorem dX6_remember_0 : decode cX6_remember 0 = .ok (.aload_n 0, 1) := by decide +kernel
theorem dX6_remember_1 : decode cX6_remember 1 = .ok (.getfield 98, 3) := by decide +kernel
theorem dX6_remember_4 : decode cX6_remember 4 = .ok (.bipush 16, 2) := by decide +kernel
theorem dX6_remember_6 : decode cX6_remember 6 = .ok (.if_icmp .ne 41, 3) := by decide +kernel
theorem dX6_remember_9 : decode cX6_remember 9 = .ok (.iconst 1, 1) := by decide +kernel
theorem dX6_remember_10 : decode cX6_remember 10 = .ok (.istore_n 1, 1) := by decide +kernel
theorem dX6_remember_11 : decode cX6_remember 11 = .ok (.iload_n 1, 1) := by decide +kernel
theorem dX6_remember_12 : decode cX6_remember 12 = .ok (.bipush 16, 2) := by decide +kernel
theorem dX6_remember_14 : decode cX6_remember 14 = .ok (.if_icmp .ge 23, 3) := by decide +kernel
theorem dX6_remember_17 : decode cX6_remember 17 = .ok (.aload_n 0, 1) := by decide +kernel
theorem dX6_remember_18 : decode cX6_remember 18 = .ok (.bipush 84, 2) := by decide +kernel
theorem dX6_remember_20 : decode cX6_remember 20 = .ok (.iload_n 1, 1) := by decide +kernel
theorem dX6_remember_21 : decode cX6_remember 21 = .ok (.iconst 1, 1) := by decide +kernel
theorem dX6_remember_22 : decode cX6_remember 22 = .ok (.iadd, 1) := by decide +kernel
theorem dX6_remember_23 : decode cX6_remember 23 = .ok (.imul, 1) := by decide +kernel
theorem dX6_remember_24 : decode cX6_remember 24 = .ok (.bipush 84, 2) := by decide +kernel
theorem dX6_remember_26 : decode cX6_remember 26 = .ok (.iload_n 1, 1) := by decide +kernel
theorem dX6_remember_27 : decode cX6_remember 27 = .ok (.imul, 1) := by decide +kernel
theorem dX6_remember_28 : decode cX6_remember 28 = .ok (.invokevirtual 115, 3) := by decide +kernel
theorem dX6_remember_31 : decode cX6_remember 31 = .ok (.iinc 1 1, 3) := by decide +kernel
theorem dX6_remember_34 : decode cX6_remember 34 = .ok (.goto (-23), 3) := by decide +kernel
theorem dX6_remember_37 : decode cX6_remember 37 = .ok (.aload_n 0, 1) := by decide +kernel
theorem dX6_remember_38 : decode cX6_remember 38 = .ok (.dup, 1) := by decide +kernel
theorem dX6_remember_39 : decode cX6_remember 39 = .ok (.getfield 98, 3) := by decide +kernel
theorem dX6_remember_42 : decode cX6_remember 42 = .ok (.iconst 1, 1) := by decide +kernel
theorem dX6_remember_43 : decode cX6_remember 43 = .ok (.isub, 1) := by decide +kernel
theorem dX6_remember_44 : decode cX6_remember 44 = .ok (.putfield 98, 3) := by decide +kernel
theorem dX6_remember_47 : decode cX6_remember 47 = .ok (.aload_n 0, 1) := by decide +kernel
theorem dX6_remember_48 : decode cX6_remember 48 = .ok (.iconst 0, 1) := by decide +kernel
theorem dX6_remember_49 : decode cX6_remember 49 = .ok (.bipush 84, 2) := by decide +kernel
theorem dX6_remember_51 : decode cX6_remember 51 = .ok (.aload_n 0, 1) := by decide +kernel
theorem dX6_remember_52 : decode cX6_remember 52 = .ok (.getfield 98, 3) := by decide +kernel
theorem dX6_remember_55 : decode cX6_remember 55 = .ok (.iconst 1, 1) := by decide +kernel
theorem dX6_remember_56 : decode cX6_remember 56 = .ok (.iadd, 1) := by decide +kernel
theorem dX6_remember_57 : decode cX6_remember 57 = .ok (.imul, 1) := by decide +kernel
theorem dX6_remember_58 : decode cX6_remember 58 = .ok (.invokevirtual 115, 3) := by decide +kernel
theorem dX6_remember_61 : decode cX6_remember 61 = .ok (.aload_n 0, 1) := by decide +kernel
theorem dX6_remember_62 : decode cX6_remember 62 = .ok (.dup, 1) := by decide +kernel
theorem dX6_remember_63 : decode cX6_remember 63 = .ok (.getfield 98, 3) := by decide +kernel
theorem dX6_remember_66 : decode cX6_remember 66 = .ok (.iconst 1, 1) := by decide +kernel
theorem dX6_remember_67 : decode cX6_remember 67 = .ok (.iadd, 1) := by decide +kernel
theorem dX6_remember_68 : decode cX6_remember 68 = .ok (.putfield 98, 3) := by decide +kernel
theorem dX6_remember_71 : decode cX6_remember 71 = .ok (.return_, 1) := by decide +kernel
set_option maxRecDepth 20000 in
theorem ggX6_line_X6_in : GoodIn wsX6_line wsX6_in := goodIn_r _ [7] (by decide +kernel) (by decide +kernel)
set_option maxRecDepth 20000 in
theorem gX6_line_X6_in : GoodIn wsX6_line (va_wsS RX6 19 yX6_in wsX6_in) := goodIn_app (goodIn_of _ (by decide +kernel)) ggX6_line_X6_in
set_option maxRecDepth 20000 in
theorem ggX6_line_X6_remember : GoodIn wsX6_line wsX6_remember := goodIn_r _ [11, 12, 13, 14, 15, 6, 16, 2, 21, 22, 23, 24, 25, 26] (by decide +kernel) (by decide +kernel)
set_option maxRecDepth 20000 in
theorem gX6_line_X6_remember : GoodIn wsX6_line (wsV RX6 118 RX6 yX6_remember wsX6_remember) := goodIn_app (goodIn_of _ (by decide +kernel)) ggX6_line_X6_remember
set_option maxRecDepth 20000 in
theorem ggX6_line_X6_heads : GoodIn wsX6_line wsX6_heads := goodIn_r _ [20, 2, 21, 22, 23, 24, 25, 26] (by decide +kernel) (by decide +kernel)
set_option maxRecDepth 20000 in
theorem gX6_line_X6_heads : GoodIn wsX6_line (wsV RX6 23 RX6 yX6_heads wsX6_heads) := goodIn_app (goodIn_of _ (by decide +kernel)) ggX6_line_X6_heads
theorem dX6_line_0 : decode cX6_line 0 = .ok (.iload_n 1, 1) := by decide +kernel
theorem dX6_line_1 : decode cX6_line 1 = .ok (.iload_n 2, 1) := by decide +kernel
theorem dX6_line_2 : decode cX6_line 2 = .ok (.ifCond .eq 7, 3) := by decide +kernel
theorem dX6_line_5 : decode cX6_line 5 = .ok (.iconst 2, 1) := by decide +kernel
theorem dX6_line_6 : decode cX6_line 6 = .ok (.goto 4, 3) := by decide +kernel
theorem dX6_line_9 : decode cX6_line 9 = .ok (.iconst 1, 1) := by decide +kernel
theorem dX6_line_10 : decode cX6_line 10 = .ok (.bipush 6, 2) := by decide +kernel
theorem dX6_line_12 : decode cX6_line 12 = .ok (.invokestatic 19, 3) := by decide +kernel
theorem dX6_line_15 : decode cX6_line 15 = .ok (.ifCond .ne 6, 3) := by decide +kernel
theorem dX6_line_18 : decode cX6_line 18 = .ok (.ldc 101, 2) := by decide +kernel
theorem dX6_line_20 : decode cX6_line 20 = .ok (.ireturn, 1) := by decide +kernel
theorem dX6_line_21 : decode cX6_line 21 = .ok (.aload_n 0, 1) := by decide +kernel
theorem dX6_line_22 : decode cX6_line 22 = .ok (.invokevirtual 118, 3) := by decide +kernel
theorem dX6_line_25 : decode cX6_line 25 = .ok (.iconst 1, 1) := by decide +kernel
theorem dX6_line_26 : decode cX6_line 26 = .ok (.istore_n 3, 1) := by decide +kernel
theorem dX6_line_27 : decode cX6_line 27 = .ok (.iload_n 3, 1) := by decide +kernel
theorem dX6_line_28 : decode cX6_line 28 = .ok (.bipush 83, 2) := by decide +kernel
theorem dX6_line_30 : decode cX6_line 30 = .ok (.if_icmp .ge 16, 3) := by decide +kernel
theorem dX6_line_33 : decode cX6_line 33 = .ok (.aload_n 0, 1) := by decide +kernel
theorem dX6_line_34 : decode cX6_line 34 = .ok (.getfield 7, 3) := by decide +kernel
theorem dX6_line_37 : decode cX6_line 37 = .ok (.iload_n 3, 1) := by decide +kernel
theorem dX6_line_38 : decode cX6_line 38 = .ok (.iconst 0, 1) := by decide +kernel
theorem dX6_line_39 : decode cX6_line 39 = .ok (.iastore, 1) := by decide +kernel
theorem dX6_line_40 : decode cX6_line 40 = .ok (.iinc 3 1, 3) := by decide +kernel
theorem dX6_line_43 : decode cX6_line 43 = .ok (.goto (-16), 3) := by decide +kernel
theorem dX6_line_46 : decode cX6_line 46 = .ok (.aload_n 0, 1) := by decide +kernel
theorem dX6_line_47 : decode cX6_line 47 = .ok (.getfield 7, 3) := by decide +kernel
theorem dX6_line_50 : decode cX6_line 50 = .ok (.iconst 0, 1) := by decide +kernel
theorem dX6_line_51 : decode cX6_line 51 = .ok (.iload_n 1, 1) := by decide +kernel
theorem dX6_line_52 : decode cX6_line 52 = .ok (.iastore, 1) := by decide +kernel
theorem dX6_line_53 : decode cX6_line 53 = .ok (.aload_n 0, 1) := by decide +kernel
theorem dX6_line_54 : decode cX6_line 54 = .ok (.getfield 7, 3) := by decide +kernel
theorem dX6_line_57 : decode cX6_line 57 = .ok (.iconst 1, 1) := by decide +kernel
theorem dX6_line_58 : decode cX6_line 58 = .ok (.iload_n 2, 1) := by decide +kernel
theorem dX6_line_59 : decode cX6_line 59 = .ok (.ifCond .eq 7, 3) := by decide +kernel
theorem dX6_line_62 : decode cX6_line 62 = .ok (.iconst 1, 1) := by decide +kernel
theorem dX6_line_63 : decode cX6_line 63 = .ok (.goto 4, 3) := by decide +kernel
theorem dX6_line_66 : decode cX6_line 66 = .ok (.iconst 0, 1) := by decide +kernel
theorem dX6_line_67 : decode cX6_line 67 = .ok (.iastore, 1) := by decide +kernel
theorem dX6_line_68 : decode cX6_line 68 = .ok (.aload_n 0, 1) := by decide +kernel
theorem dX6_line_69 : decode cX6_line 69 = .ok (.iconst 0, 1) := by decide +kernel
theorem dX6_line_70 : decode cX6_line 70 = .ok (.putfield 74, 3) := by decide +kernel
theorem dX6_line_73 : decode cX6_line 73 = .ok (.aload_n 0, 1) := by decide +kernel
theorem dX6_line_74 : decode cX6_line 74 = .ok (.invokevirtual 23, 3) := by decide +kernel
theorem dX6_line_77 : decode cX6_line 77 = .ok (.ireturn, 1) := by decide +kernel
theorem dX6_placeOf_0 : decode cX6_placeOf 0 = .ok (.iload_n 0, 1) := by decide +kernel
theorem dX6_placeOf_1 : decode cX6_placeOf 1 = .ok (.ifCond .ne 7, 3) := by decide +kernel
theorem dX6_placeOf_4 : decode cX6_placeOf 4 = .ok (.iconst 0, 1) := by decide +kernel
theorem dX6_placeOf_5 : decode cX6_placeOf 5 = .ok (.goto 22, 3) := by decide +kernel
theorem dX6_placeOf_8 : decode cX6_placeOf 8 = .ok (.iload_n 0, 1) := by decide +kernel
theorem dX6_placeOf_9 : decode cX6_placeOf 9 = .ok (.iconst 2, 1) := by decide +kernel
theorem dX6_placeOf_10 : decode cX6_placeOf 10 = .ok (.if_icmp .ne 7, 3) := by decide +kernel
theorem dX6_placeOf_13 : decode cX6_placeOf 13 = .ok (.iconst 1, 1) := by decide +kernel
theorem dX6_placeOf_14 : decode cX6_placeOf 14 = .ok (.goto 13, 3) := by decide +kernel
theorem dX6_placeOf_17 : decode cX6_placeOf 17 = .ok (.iload_n 0, 1) := by decide +kernel
theorem dX6_placeOf_18 : decode cX6_placeOf 18 = .ok (.iconst 3, 1) := by decide +kernel
theorem dX6_placeOf_19 : decode cX6_placeOf 19 = .ok (.if_icmp .ne 7, 3) := by decide +kernel
theorem dX6_placeOf_22 : decode cX6_placeOf 22 = .ok (.iconst 2, 1) := by decide +kernel
theorem dX6_placeOf_23 : decode cX6_placeOf 23 = .ok (.goto 4, 3) := by decide +kernel
theorem dX6_placeOf_26 : decode cX6_placeOf 26 = .ok (.iconst 3, 1) := by decide +kernel
theorem dX6_placeOf_27 : decode cX6_placeOf 27 = .ok (.ireturn, 1) := by decide +kernel
set_option maxRecDepth 20000 in
theorem ggX6_feelOne_X6_placeOf : GoodIn wsX6_feelOne wsX6_placeOf := goodIn_r _ [5] (by decide +kernel) (by decide +kernel)
set_option maxRecDepth 20000 in
theorem gX6_feelOne_X6_placeOf : GoodIn wsX6_feelOne (va_wsS RX6 121 yX6_placeOf wsX6_placeOf) := goodIn_app (goodIn_of _ (by decide +kernel)) ggX6_feelOne_X6_placeOf
theorem dX6_feelOne_0 : decode cX6_feelOne 0 = .ok (.iload_n 2, 1) := by decide +kernel
theorem dX6_feelOne_1 : decode cX6_feelOne 1 = .ok (.invokestatic 121, 3) := by decide +kernel
theorem dX6_feelOne_4 : decode cX6_feelOne 4 = .ok (.aload_n 0, 1) := by decide +kernel
theorem dX6_feelOne_5 : decode cX6_feelOne 5 = .ok (.getfield 7, 3) := by decide +kernel
theorem dX6_feelOne_8 : decode cX6_feelOne 8 = .ok (.bipush 27, 2) := by decide +kernel
theorem dX6_feelOne_10 : decode cX6_feelOne 10 = .ok (.iload_n 1, 1) := by decide +kernel
theorem dX6_feelOne_11 : decode cX6_feelOne 11 = .ok (.iadd, 1) := by decide +kernel
theorem dX6_feelOne_12 : decode cX6_feelOne 12 = .ok (.iaload, 1) := by decide +kernel
theorem dX6_feelOne_13 : decode cX6_feelOne 13 = .ok (.invokestatic 121, 3) := by decide +kernel
theorem dX6_feelOne_16 : decode cX6_feelOne 16 = .ok (.isub, 1) := by decide +kernel
theorem dX6_feelOne_17 : decode cX6_feelOne 17 = .ok (.iconst 4, 1) := by decide +kernel
theorem dX6_feelOne_18 : decode cX6_feelOne 18 = .ok (.iadd, 1) := by decide +kernel
theorem dX6_feelOne_19 : decode cX6_feelOne 19 = .ok (.iconst 4, 1) := by decide +kernel
theorem dX6_feelOne_20 : decode cX6_feelOne 20 = .ok (.irem, 1) := by decide +kernel
theorem dX6_feelOne_21 : decode cX6_feelOne 21 = .ok (.istore_n 3, 1) := by decide +kernel
theorem dX6_feelOne_22 : decode cX6_feelOne 22 = .ok (.iload_n 3, 1) := by decide +kernel
theorem dX6_feelOne_23 : decode cX6_feelOne 23 = .ok (.iconst 2, 1) := by decide +kernel
theorem dX6_feelOne_24 : decode cX6_feelOne 24 = .ok (.if_icmp .ne 15, 3) := by decide +kernel
theorem dX6_feelOne_27 : decode cX6_feelOne 27 = .ok (.aload_n 0, 1) := by decide +kernel
theorem dX6_feelOne_28 : decode cX6_feelOne 28 = .ok (.getfield 7, 3) := by decide +kernel
theorem dX6_feelOne_31 : decode cX6_feelOne 31 = .ok (.bipush 62, 2) := by decide +kernel
theorem dX6_feelOne_33 : decode cX6_feelOne 33 = .ok (.iload_n 1, 1) := by decide +kernel
theorem dX6_feelOne_34 : decode cX6_feelOne 34 = .ok (.iadd, 1) := by decide +kernel
theorem dX6_feelOne_35 : decode cX6_feelOne 35 = .ok (.iconst 1, 1) := by decide +kernel
theorem dX6_feelOne_36 : decode cX6_feelOne 36 = .ok (.iastore, 1) := by decide +kernel
theorem dX6_feelOne_37 : decode cX6_feelOne 37 = .ok (.iconst 3, 1) := by decide +kernel
theorem dX6_feelOne_38 : decode cX6_feelOne 38 = .ok (.ireturn, 1) := by decide +kernel
theorem dX6_feelOne_39 : decode cX6_feelOne 39 = .ok (.aload_n 0, 1) := by decide +kernel
theorem dX6_feelOne_40 : decode cX6_feelOne 40 = .ok (.getfield 7, 3) := by decide +kernel
theorem dX6_feelOne_43 : decode cX6_feelOne 43 = .ok (.bipush 27, 2) := by decide +kernel
theorem dX6_feelOne_45 : decode cX6_feelOne 45 = .ok (.iload_n 1, 1) := by decide +kernel
theorem dX6_feelOne_46 : decode cX6_feelOne 46 = .ok (.iadd, 1) := by decide +kernel
theorem dX6_feelOne_47 : decode cX6_feelOne 47 = .ok (.iload_n 2, 1) := by decide +kernel
theorem dX6_feelOne_48 : decode cX6_feelOne 48 = .ok (.iastore, 1) := by decide +kernel
theorem dX6_feelOne_49 : decode cX6_feelOne 49 = .ok (.aload_n 0, 1) := by decide +kernel
theorem dX6_feelOne_50 : decode cX6_feelOne 50 = .ok (.getfield 7, 3) := by decide +kernel
theorem dX6_feelOne_53 : decode cX6_feelOne 53 = .ok (.bipush 34, 2) := by decide +kernel
theorem dX6_feelOne_55 : decode cX6_feelOne 55 = .ok (.iload_n 1, 1) := by decide +kernel
theorem dX6_feelOne_56 : decode cX6_feelOne 56 = .ok (.iadd, 1) := by decide +kernel
theorem dX6_feelOne_57 : decode cX6_feelOne 57 = .ok (.dup2, 1) := by decide +kernel
theorem dX6_feelOne_58 : decode cX6_feelOne 58 = .ok (.iaload, 1) := by decide +kernel
theorem dX6_feelOne_59 : decode cX6_feelOne 59 = .ok (.iload_n 3, 1) := by decide +kernel
theorem dX6_feelOne_60 : decode cX6_feelOne 60 = .ok (.iconst 1, 1) := by decide +kernel
theorem dX6_feelOne_61 : decode cX6_feelOne 61 = .ok (.if_icmp .ne 7, 3) := by decide +kernel
theorem dX6_feelOne_64 : decode cX6_feelOne 64 = .ok (.iconst 1, 1) := by decide +kernel
theorem dX6_feelOne_65 : decode cX6_feelOne 65 = .ok (.goto 4, 3) := by decide +kernel
theorem dX6_feelOne_68 : decode cX6_feelOne 68 = .ok (.iconst (-1), 1) := by decide +kernel
theorem dX6_feelOne_69 : decode cX6_feelOne 69 = .ok (.iadd, 1) := by decide +kernel
theorem dX6_feelOne_70 : decode cX6_feelOne 70 = .ok (.iastore, 1) := by decide +kernel
theorem dX6_feelOne_71 : decode cX6_feelOne 71 = .ok (.aload_n 0, 1) := by decide +kernel
theorem dX6_feelOne_72 : decode cX6_feelOne 72 = .ok (.getfield 7, 3) := by decide +kernel
theorem dX6_feelOne_75 : decode cX6_feelOne 75 = .ok (.bipush 34, 2) := by decide +kernel
theorem dX6_feelOne_77 : decode cX6_feelOne 77 = .ok (.iload_n 1, 1) := by decide +kernel
theorem dX6_feelOne_78 : decode cX6_feelOne 78 = .ok (.iadd, 1) := by decide +kernel
theorem dX6_feelOne_79 : decode cX6_feelOne 79 = .ok (.iaload, 1) := by decide +kernel
theorem dX6_feelOne_80 : decode cX6_feelOne 80 = .ok (.istore 4, 2) := by decide +kernel
theorem dX6_feelOne_82 : decode cX6_feelOne 82 = .ok (.iload 4, 2) := by decide +kernel
theorem dX6_feelOne_84 : decode cX6_feelOne 84 = .ok (.iconst 4, 1) := by decide +kernel
theorem dX6_feelOne_85 : decode cX6_feelOne 85 = .ok (.if_icmp .eq 12, 3) := by decide +kernel
theorem dX6_feelOne_88 : decode cX6_feelOne 88 = .ok (.iload 4, 2) := by decide +kernel
theorem dX6_feelOne_90 : decode cX6_feelOne 90 = .ok (.bipush (-4), 2) := by decide +kernel
theorem dX6_feelOne_92 : decode cX6_feelOne 92 = .ok (.if_icmp .eq 5, 3) := by decide +kernel
theorem dX6_feelOne_95 : decode cX6_feelOne 95 = .ok (.iconst 0, 1) := by decide +kernel
theorem dX6_feelOne_96 : decode cX6_feelOne 96 = .ok (.ireturn, 1) := by decide +kernel
theorem dX6_feelOne_97 : decode cX6_feelOne 97 = .ok (.aload_n 0, 1) := by decide +kernel
theorem dX6_feelOne_98 : decode cX6_feelOne 98 = .ok (.getfield 7, 3) := by decide +kernel
theorem dX6_feelOne_101 : decode cX6_feelOne 101 = .ok (.bipush 34, 2) := by decide +kernel
theorem dX6_feelOne_103 : decode cX6_feelOne 103 = .ok (.iload_n 1, 1) := by decide +kernel
theorem dX6_feelOne_104 : decode cX6_feelOne 104 = .ok (.iadd, 1) := by decide +kernel
theorem dX6_feelOne_105 : decode cX6_feelOne 105 = .ok (.iconst 0, 1) := by decide +kernel
theorem dX6_feelOne_106 : decode cX6_feelOne 106 = .ok (.iastore, 1) := by decide +kernel
theorem dX6_feelOne_107 : decode cX6_feelOne 107 = .ok (.aload_n 0, 1) := by decide +kernel
theorem dX6_feelOne_108 : decode cX6_feelOne 108 = .ok (.getfield 7, 3) := by decide +kernel
theorem dX6_feelOne_111 : decode cX6_feelOne 111 = .ok (.bipush 41, 2) := by decide +kernel
theorem dX6_feelOne_113 : decode cX6_feelOne 113 = .ok (.iload_n 1, 1) := by decide +kernel
theorem dX6_feelOne_114 : decode cX6_feelOne 114 = .ok (.iadd, 1) := by decide +kernel
theorem dX6_feelOne_115 : decode cX6_feelOne 115 = .ok (.dup2, 1) := by decide +kernel
theorem dX6_feelOne_116 : decode cX6_feelOne 116 = .ok (.iaload, 1) := by decide +kernel
theorem dX6_feelOne_117 : decode cX6_feelOne 117 = .ok (.iload 4, 2) := by decide +kernel
theorem dX6_feelOne_119 : decode cX6_feelOne 119 = .ok (.iconst 4, 1) := by decide +kernel
theorem dX6_feelOne_120 : decode cX6_feelOne 120 = .ok (.if_icmp .ne 7, 3) := by decide +kernel
theorem dX6_feelOne_123 : decode cX6_feelOne 123 = .ok (.iconst 1, 1) := by decide +kernel
theorem dX6_feelOne_124 : decode cX6_feelOne 124 = .ok (.goto 4, 3) := by decide +kernel
theorem dX6_feelOne_127 : decode cX6_feelOne 127 = .ok (.iconst (-1), 1) := by decide +kernel
theorem dX6_feelOne_128 : decode cX6_feelOne 128 = .ok (.iadd, 1) := by decide +kernel
theorem dX6_feelOne_129 : decode cX6_feelOne 129 = .ok (.iastore, 1) := by decide +kernel
theorem dX6_feelOne_130 : decode cX6_feelOne 130 = .ok (.iload 4, 2) := by decide +kernel
theorem dX6_feelOne_132 : decode cX6_feelOne 132 = .ok (.iconst 4, 1) := by decide +kernel
theorem dX6_feelOne_133 : decode cX6_feelOne 133 = .ok (.if_icmp .ne 7, 3) := by decide +kernel
theorem dX6_feelOne_136 : decode cX6_feelOne 136 = .ok (.iconst 1, 1) := by decide +kernel
theorem dX6_feelOne_137 : decode cX6_feelOne 137 = .ok (.goto 4, 3) := by decide +kernel
theorem dX6_feelOne_140 : decode cX6_feelOne 140 = .ok (.iconst 2, 1) := by decide +kernel
theorem dX6_feelOne_141 : decode cX6_feelOne 141 = .ok (.ireturn, 1) := by decide +kernel
set_option maxRecDepth 20000 in
theorem ggX6_feel_X6_isHead : GoodIn wsX6_feel wsX6_isHead := goodIn_r _ [9, 10, 11, 12, 8, 13, 3, 14, 15, 16, 33, 34, 35, 36, 37, 38] (by decide +kernel) (by decide +kernel)
set_option maxRecDepth 20000 in
theorem gX6_feel_X6_isHead : GoodIn wsX6_feel (wsV RX6 109 RX6 yX6_isHead wsX6_isHead) := goodIn_app (goodIn_of _ (by decide +kernel)) ggX6_feel_X6_isHead
set_option maxRecDepth 20000 in
theorem ggX6_feel_X6_in : GoodIn wsX6_feel wsX6_in := goodIn_r _ [16] (by decide +kernel) (by decide +kernel)
set_option maxRecDepth 20000 in
theorem gX6_feel_X6_in : GoodIn wsX6_feel (va_wsS RX6 19 yX6_in wsX6_in) := goodIn_app (goodIn_of _ (by decide +kernel)) ggX6_feel_X6_in
set_option maxRecDepth 20000 in
theorem ggX6_feel_X6_remember : GoodIn wsX6_feel wsX6_remember := goodIn_r _ [20, 21, 22, 23, 24, 8, 25, 3, 33, 34, 35, 36, 37, 38] (by decide +kernel) (by decide +kernel)
set_option maxRecDepth 20000 in
theorem gX6_feel_X6_remember : GoodIn wsX6_feel (wsV RX6 118 RX6 yX6_remember wsX6_remember) := goodIn_app (goodIn_of _ (by decide +kernel)) ggX6_feel_X6_remember
set_option maxRecDepth 20000 in
theorem ggX6_feel_X6_feelOne : GoodIn wsX6_feel wsX6_feelOne := goodIn_r _ [29, 3, 30, 31, 8, 32, 33, 34, 35, 36, 37, 38] (by decide +kernel) (by decide +kernel)
set_option maxRecDepth 20000 in
theorem gX6_feel_X6_feelOne : GoodIn wsX6_feel (wsV RX6 125 RX6 yX6_feelOne wsX6_feelOne) := goodIn_app (goodIn_of _ (by decide +kernel)) ggX6_feel_X6_feelOne
theorem dX6_feel_0 : decode cX6_feel 0 = .ok (.aload_n 0, 1) := by decide +kernel
theorem dX6_feel_1 : decode cX6_feel 1 = .ok (.iload_n 1, 1) := by decide +kernel
theorem dX6_feel_2 : decode cX6_feel 2 = .ok (.invokevirtual 109, 3) := by decide +kernel
theorem dX6_feel_5 : decode cX6_feel 5 = .ok (.ifCond .ne 6, 3) := by decide +kernel
theorem dX6_feel_8 : decode cX6_feel 8 = .ok (.ldc 102, 2) := by decide +kernel
theorem dX6_feel_10 : decode cX6_feel 10 = .ok (.ireturn, 1) := by decide +kernel
theorem dX6_feel_11 : decode cX6_feel 11 = .ok (.iload_n 2, 1) := by decide +kernel
theorem dX6_feel_12 : decode cX6_feel 12 = .ok (.iconst 0, 1) := by decide +kernel
theorem dX6_feel_13 : decode cX6_feel 13 = .ok (.iconst 3, 1) := by decide +kernel
theorem dX6_feel_14 : decode cX6_feel 14 = .ok (.invokestatic 19, 3) := by decide +kernel
theorem dX6_feel_17 : decode cX6_feel 17 = .ok (.ifCond .ne 6, 3) := by decide +kernel
theorem dX6_feel_20 : decode cX6_feel 20 = .ok (.ldc 101, 2) := by decide +kernel
theorem dX6_feel_22 : decode cX6_feel 22 = .ok (.ireturn, 1) := by decide +kernel
theorem dX6_feel_23 : decode cX6_feel 23 = .ok (.aload_n 0, 1) := by decide +kernel
theorem dX6_feel_24 : decode cX6_feel 24 = .ok (.getfield 7, 3) := by decide +kernel
theorem dX6_feel_27 : decode cX6_feel 27 = .ok (.bipush 62, 2) := by decide +kernel
theorem dX6_feel_29 : decode cX6_feel 29 = .ok (.iload_n 1, 1) := by decide +kernel
theorem dX6_feel_30 : decode cX6_feel 30 = .ok (.iadd, 1) := by decide +kernel
theorem dX6_feel_31 : decode cX6_feel 31 = .ok (.iaload, 1) := by decide +kernel
theorem dX6_feel_32 : decode cX6_feel 32 = .ok (.iconst 1, 1) := by decide +kernel
theorem dX6_feel_33 : decode cX6_feel 33 = .ok (.if_icmp .eq 16, 3) := by decide +kernel
theorem dX6_feel_36 : decode cX6_feel 36 = .ok (.aload_n 0, 1) := by decide +kernel
theorem dX6_feel_37 : decode cX6_feel 37 = .ok (.getfield 7, 3) := by decide +kernel
theorem dX6_feel_40 : decode cX6_feel 40 = .ok (.bipush 27, 2) := by decide +kernel
theorem dX6_feel_42 : decode cX6_feel 42 = .ok (.iload_n 1, 1) := by decide +kernel
theorem dX6_feel_43 : decode cX6_feel 43 = .ok (.iadd, 1) := by decide +kernel
theorem dX6_feel_44 : decode cX6_feel 44 = .ok (.iaload, 1) := by decide +kernel
theorem dX6_feel_45 : decode cX6_feel 45 = .ok (.iload_n 2, 1) := by decide +kernel
theorem dX6_feel_46 : decode cX6_feel 46 = .ok (.if_icmp .ne 6, 3) := by decide +kernel
theorem dX6_feel_49 : decode cX6_feel 49 = .ok (.ldc 124, 2) := by decide +kernel
theorem dX6_feel_51 : decode cX6_feel 51 = .ok (.ireturn, 1) := by decide +kernel
theorem dX6_feel_52 : decode cX6_feel 52 = .ok (.aload_n 0, 1) := by decide +kernel
theorem dX6_feel_53 : decode cX6_feel 53 = .ok (.invokevirtual 118, 3) := by decide +kernel
theorem dX6_feel_56 : decode cX6_feel 56 = .ok (.aload_n 0, 1) := by decide +kernel
theorem dX6_feel_57 : decode cX6_feel 57 = .ok (.iload_n 1, 1) := by decide +kernel
theorem dX6_feel_58 : decode cX6_feel 58 = .ok (.iload_n 2, 1) := by decide +kernel
theorem dX6_feel_59 : decode cX6_feel 59 = .ok (.invokevirtual 125, 3) := by decide +kernel
theorem dX6_feel_62 : decode cX6_feel 62 = .ok (.ireturn, 1) := by decide +kernel
set_option maxRecDepth 20000 in
theorem ggX6_canGo_X6_leftOf : GoodIn wsX6_canGo wsX6_leftOf := goodIn_r _ [6, 1, 11, 12, 13, 14, 15, 16] (by decide +kernel) (by decide +kernel)
set_option maxRecDepth 20000 in
theorem gX6_canGo_X6_leftOf : GoodIn wsX6_canGo (wsV RX6 31 RX6 yX6_leftOf wsX6_leftOf) := goodIn_app (goodIn_of _ (by decide +kernel)) ggX6_canGo_X6_leftOf
set_option maxRecDepth 20000 in
theorem ggX6_canGo_X6_rightOf : GoodIn wsX6_canGo wsX6_rightOf := goodIn_r _ [10, 1, 11, 12, 13, 14, 15, 16] (by decide +kernel) (by decide +kernel)
set_option maxRecDepth 20000 in
theorem gX6_canGo_X6_rightOf : GoodIn wsX6_canGo (wsV RX6 27 RX6 yX6_rightOf wsX6_rightOf) := goodIn_app (goodIn_of _ (by decide +kernel)) ggX6_canGo_X6_rightOf
theorem dX6_canGo_0 : decode cX6_canGo 0 = .ok (.iload_n 2, 1) := by decide +kernel
theorem dX6_canGo_1 : decode cX6_canGo 1 = .ok (.ifCond .ne 11, 3) := by decide +kernel
theorem dX6_canGo_4 : decode cX6_canGo 4 = .ok (.aload_n 0, 1) := by decide +kernel
theorem dX6_canGo_5 : decode cX6_canGo 5 = .ok (.iload_n 1, 1) := by decide +kernel
theorem dX6_canGo_6 : decode cX6_canGo 6 = .ok (.invokevirtual 31, 3) := by decide +kernel
theorem dX6_canGo_9 : decode cX6_canGo 9 = .ok (.goto 8, 3) := by decide +kernel
theorem dX6_canGo_12 : decode cX6_canGo 12 = .ok (.aload_n 0, 1) := by decide +kernel
theorem dX6_canGo_13 : decode cX6_canGo 13 = .ok (.iload_n 1, 1) := by decide +kernel
theorem dX6_canGo_14 : decode cX6_canGo 14 = .ok (.invokevirtual 27, 3) := by decide +kernel
theorem dX6_canGo_17 : decode cX6_canGo 17 = .ok (.istore 4, 2) := by decide +kernel
theorem dX6_canGo_19 : decode cX6_canGo 19 = .ok (.iload 4, 2) := by decide +kernel
theorem dX6_canGo_21 : decode cX6_canGo 21 = .ok (.iconst (-1), 1) := by decide +kernel
theorem dX6_canGo_22 : decode cX6_canGo 22 = .ok (.if_icmp .eq 17, 3) := by decide +kernel
theorem dX6_canGo_25 : decode cX6_canGo 25 = .ok (.aload_n 0, 1) := by decide +kernel
theorem dX6_canGo_26 : decode cX6_canGo 26 = .ok (.getfield 7, 3) := by decide +kernel
theorem dX6_canGo_29 : decode cX6_canGo 29 = .ok (.bipush 15, 2) := by decide +kernel
theorem dX6_canGo_31 : decode cX6_canGo 31 = .ok (.iload 4, 2) := by decide +kernel
theorem dX6_canGo_33 : decode cX6_canGo 33 = .ok (.iadd, 1) := by decide +kernel
theorem dX6_canGo_34 : decode cX6_canGo 34 = .ok (.iaload, 1) := by decide +kernel
theorem dX6_canGo_35 : decode cX6_canGo 35 = .ok (.iload_n 3, 1) := by decide +kernel
theorem dX6_canGo_36 : decode cX6_canGo 36 = .ok (.if_icmp .lt 7, 3) := by decide +kernel
theorem dX6_canGo_39 : decode cX6_canGo 39 = .ok (.iconst 1, 1) := by decide +kernel
theorem dX6_canGo_40 : decode cX6_canGo 40 = .ok (.goto 4, 3) := by decide +kernel
theorem dX6_canGo_43 : decode cX6_canGo 43 = .ok (.iconst 0, 1) := by decide +kernel
theorem dX6_canGo_44 : decode cX6_canGo 44 = .ok (.ireturn, 1) := by decide +kernel
theorem dX6_feels_0 : decode cX6_feels 0 = .ok (.aload_n 0, 1) := by decide +kernel
theorem dX6_feels_1 : decode cX6_feels 1 = .ok (.getfield 7, 3) := by decide +kernel
theorem dX6_feels_4 : decode cX6_feels 4 = .ok (.bipush 62, 2) := by decide +kernel
theorem dX6_feels_6 : decode cX6_feels 6 = .ok (.iload_n 1, 1) := by decide +kernel
theorem dX6_feels_7 : decode cX6_feels 7 = .ok (.iadd, 1) := by decide +kernel
theorem dX6_feels_8 : decode cX6_feels 8 = .ok (.iaload, 1) := by decide +kernel
theorem dX6_feels_9 : decode cX6_feels 9 = .ok (.ifCond .ne 19, 3) := by decide +kernel
theorem dX6_feels_12 : decode cX6_feels 12 = .ok (.aload_n 0, 1) := by decide +kernel
theorem dX6_feels_13 : decode cX6_feels 13 = .ok (.getfield 7, 3) := by decide +kernel
theorem dX6_feels_16 : decode cX6_feels 16 = .ok (.bipush 27, 2) := by decide +kernel
theorem dX6_feels_18 : decode cX6_feels 18 = .ok (.iload_n 1, 1) := by decide +kernel
theorem dX6_feels_19 : decode cX6_feels 19 = .ok (.iadd, 1) := by decide +kernel
theorem dX6_feels_20 : decode cX6_feels 20 = .ok (.iaload, 1) := by decide +kernel
theorem dX6_feels_21 : decode cX6_feels 21 = .ok (.ifCond .ne 7, 3) := by decide +kernel
theorem dX6_feels_24 : decode cX6_feels 24 = .ok (.iconst 1, 1) := by decide +kernel
theorem dX6_feels_25 : decode cX6_feels 25 = .ok (.goto 4, 3) := by decide +kernel
theorem dX6_feels_28 : decode cX6_feels 28 = .ok (.iconst 0, 1) := by decide +kernel
theorem dX6_feels_29 : decode cX6_feels 29 = .ok (.ireturn, 1) := by decide +kernel
set_option maxRecDepth 20000 in
theorem ggX6_goOver_X6_leftOf : GoodIn wsX6_goOver wsX6_leftOf := goodIn_r _ [6, 1, 11, 12, 13, 14, 15, 16] (by decide +kernel) (by decide +kernel)
set_option maxRecDepth 20000 in
theorem gX6_goOver_X6_leftOf : GoodIn wsX6_goOver (wsV RX6 31 RX6 yX6_leftOf wsX6_leftOf) := goodIn_app (goodIn_of _ (by decide +kernel)) ggX6_goOver_X6_leftOf
set_option maxRecDepth 20000 in
theorem ggX6_goOver_X6_rightOf : GoodIn wsX6_goOver wsX6_rightOf := goodIn_r _ [10, 1, 11, 12, 13, 14, 15, 16] (by decide +kernel) (by decide +kernel)
set_option maxRecDepth 20000 in
theorem gX6_goOver_X6_rightOf : GoodIn wsX6_goOver (wsV RX6 27 RX6 yX6_rightOf wsX6_rightOf) := goodIn_app (goodIn_of _ (by decide +kernel)) ggX6_goOver_X6_rightOf
theorem dX6_goOver_0 : decode cX6_goOver 0 = .ok (.iload_n 2, 1) := by decide +kernel
theorem dX6_goOver_1 : decode cX6_goOver 1 = .ok (.ifCond .ne 11, 3) := by decide +kernel
theorem dX6_goOver_4 : decode cX6_goOver 4 = .ok (.aload_n 0, 1) := by decide +kernel
theorem dX6_goOver_5 : decode cX6_goOver 5 = .ok (.iload_n 1, 1) := by decide +kernel
theorem dX6_goOver_6 : decode cX6_goOver 6 = .ok (.invokevirtual 31, 3) := by decide +kernel
theorem dX6_goOver_9 : decode cX6_goOver 9 = .ok (.goto 8, 3) := by decide +kernel
theorem dX6_goOver_12 : decode cX6_goOver 12 = .ok (.aload_n 0, 1) := by decide +kernel
theorem dX6_goOver_13 : decode cX6_goOver 13 = .ok (.iload_n 1, 1) := by decide +kernel
theorem dX6_goOver_14 : decode cX6_goOver 14 = .ok (.invokevirtual 27, 3) := by decide +kernel
theorem dX6_goOver_17 : decode cX6_goOver 17 = .ok (.istore 5, 2) := by decide +kernel
theorem dX6_goOver_19 : decode cX6_goOver 19 = .ok (.iload_n 2, 1) := by decide +kernel
theorem dX6_goOver_20 : decode cX6_goOver 20 = .ok (.ifCond .ne 11, 3) := by decide +kernel
theorem dX6_goOver_23 : decode cX6_goOver 23 = .ok (.aload_n 0, 1) := by decide +kernel
theorem dX6_goOver_24 : decode cX6_goOver 24 = .ok (.iload_n 1, 1) := by decide +kernel
theorem dX6_goOver_25 : decode cX6_goOver 25 = .ok (.invokevirtual 27, 3) := by decide +kernel
theorem dX6_goOver_28 : decode cX6_goOver 28 = .ok (.goto 8, 3) := by decide +kernel
theorem dX6_goOver_31 : decode cX6_goOver 31 = .ok (.aload_n 0, 1) := by decide +kernel
theorem dX6_goOver_32 : decode cX6_goOver 32 = .ok (.iload_n 1, 1) := by decide +kernel
theorem dX6_goOver_33 : decode cX6_goOver 33 = .ok (.invokevirtual 31, 3) := by decide +kernel
theorem dX6_goOver_36 : decode cX6_goOver 36 = .ok (.istore 6, 2) := by decide +kernel
theorem dX6_goOver_38 : decode cX6_goOver 38 = .ok (.iload 5, 2) := by decide +kernel
theorem dX6_goOver_40 : decode cX6_goOver 40 = .ok (.iconst (-1), 1) := by decide +kernel
theorem dX6_goOver_41 : decode cX6_goOver 41 = .ok (.if_icmp .eq 17, 3) := by decide +kernel
theorem dX6_goOver_44 : decode cX6_goOver 44 = .ok (.aload_n 0, 1) := by decide +kernel
theorem dX6_goOver_45 : decode cX6_goOver 45 = .ok (.getfield 7, 3) := by decide +kernel
theorem dX6_goOver_48 : decode cX6_goOver 48 = .ok (.bipush 15, 2) := by decide +kernel
theorem dX6_goOver_50 : decode cX6_goOver 50 = .ok (.iload 5, 2) := by decide +kernel
theorem dX6_goOver_52 : decode cX6_goOver 52 = .ok (.iadd, 1) := by decide +kernel
theorem dX6_goOver_53 : decode cX6_goOver 53 = .ok (.dup2, 1) := by decide +kernel
theorem dX6_goOver_54 : decode cX6_goOver 54 = .ok (.iaload, 1) := by decide +kernel
theorem dX6_goOver_55 : decode cX6_goOver 55 = .ok (.iload_n 3, 1) := by decide +kernel
theorem dX6_goOver_56 : decode cX6_goOver 56 = .ok (.isub, 1) := by decide +kernel
theorem dX6_goOver_57 : decode cX6_goOver 57 = .ok (.iastore, 1) := by decide +kernel
theorem dX6_goOver_58 : decode cX6_goOver 58 = .ok (.iload 6, 2) := by decide +kernel
theorem dX6_goOver_60 : decode cX6_goOver 60 = .ok (.iconst (-1), 1) := by decide +kernel
theorem dX6_goOver_61 : decode cX6_goOver 61 = .ok (.if_icmp .eq 17, 3) := by decide +kernel
theorem dX6_goOver_64 : decode cX6_goOver 64 = .ok (.aload_n 0, 1) := by decide +kernel
theorem dX6_goOver_65 : decode cX6_goOver 65 = .ok (.getfield 7, 3) := by decide +kernel
theorem dX6_goOver_68 : decode cX6_goOver 68 = .ok (.bipush 15, 2) := by decide +kernel
theorem dX6_goOver_70 : decode cX6_goOver 70 = .ok (.iload 6, 2) := by decide +kernel
theorem dX6_goOver_72 : decode cX6_goOver 72 = .ok (.iadd, 1) := by decide +kernel
theorem dX6_goOver_73 : decode cX6_goOver 73 = .ok (.dup2, 1) := by decide +kernel
theorem dX6_goOver_74 : decode cX6_goOver 74 = .ok (.iaload, 1) := by decide +kernel
theorem dX6_goOver_75 : decode cX6_goOver 75 = .ok (.iload_n 3, 1) := by decide +kernel
theorem dX6_goOver_76 : decode cX6_goOver 76 = .ok (.iadd, 1) := by decide +kernel
theorem dX6_goOver_77 : decode cX6_goOver 77 = .ok (.iastore, 1) := by decide +kernel
theorem dX6_goOver_78 : decode cX6_goOver 78 = .ok (.iload 4, 2) := by decide +kernel
theorem dX6_goOver_80 : decode cX6_goOver 80 = .ok (.ifCond .eq 25, 3) := by decide +kernel
theorem dX6_goOver_83 : decode cX6_goOver 83 = .ok (.aload_n 0, 1) := by decide +kernel
theorem dX6_goOver_84 : decode cX6_goOver 84 = .ok (.getfield 7, 3) := by decide +kernel
theorem dX6_goOver_87 : decode cX6_goOver 87 = .ok (.bipush 41, 2) := by decide +kernel
theorem dX6_goOver_89 : decode cX6_goOver 89 = .ok (.iload_n 1, 1) := by decide +kernel
theorem dX6_goOver_90 : decode cX6_goOver 90 = .ok (.iadd, 1) := by decide +kernel
theorem dX6_goOver_91 : decode cX6_goOver 91 = .ok (.dup2, 1) := by decide +kernel
theorem dX6_goOver_92 : decode cX6_goOver 92 = .ok (.iaload, 1) := by decide +kernel
theorem dX6_goOver_93 : decode cX6_goOver 93 = .ok (.iload_n 2, 1) := by decide +kernel
theorem dX6_goOver_94 : decode cX6_goOver 94 = .ok (.ifCond .ne 7, 3) := by decide +kernel
theorem dX6_goOver_97 : decode cX6_goOver 97 = .ok (.iload_n 3, 1) := by decide +kernel
theorem dX6_goOver_98 : decode cX6_goOver 98 = .ok (.goto 5, 3) := by decide +kernel
theorem dX6_goOver_101 : decode cX6_goOver 101 = .ok (.iload_n 3, 1) := by decide +kernel
theorem dX6_goOver_102 : decode cX6_goOver 102 = .ok (.ineg, 1) := by decide +kernel
theorem dX6_goOver_103 : decode cX6_goOver 103 = .ok (.iadd, 1) := by decide +kernel
theorem dX6_goOver_104 : decode cX6_goOver 104 = .ok (.iastore, 1) := by decide +kernel
theorem dX6_goOver_105 : decode cX6_goOver 105 = .ok (.iload 6, 2) := by decide +kernel
theorem dX6_goOver_107 : decode cX6_goOver 107 = .ok (.iconst (-1), 1) := by decide +kernel
theorem dX6_goOver_108 : decode cX6_goOver 108 = .ok (.if_icmp .ne 7, 3) := by decide +kernel
theorem dX6_goOver_111 : decode cX6_goOver 111 = .ok (.iconst 0, 1) := by decide +kernel
theorem dX6_goOver_112 : decode cX6_goOver 112 = .ok (.goto 13, 3) := by decide +kernel
theorem dX6_goOver_115 : decode cX6_goOver 115 = .ok (.aload_n 0, 1) := by decide +kernel
theorem dX6_goOver_116 : decode cX6_goOver 116 = .ok (.getfield 7, 3) := by decide +kernel
theorem dX6_goOver_119 : decode cX6_goOver 119 = .ok (.bipush 15, 2) := by decide +kernel
theorem dX6_goOver_121 : decode cX6_goOver 121 = .ok (.iload 6, 2) := by decide +kernel
theorem dX6_goOver_123 : decode cX6_goOver 123 = .ok (.iadd, 1) := by decide +kernel
theorem dX6_goOver_124 : decode cX6_goOver 124 = .ok (.iaload, 1) := by decide +kernel
theorem dX6_goOver_125 : decode cX6_goOver 125 = .ok (.ireturn, 1) := by decide +kernel
set_option maxRecDepth 20000 in
theorem ggX6_goes_X6_isHead : GoodIn wsX6_goes wsX6_isHead := goodIn_r _ [8, 9, 10, 11, 7, 12, 13, 14, 15, 16, 46, 47, 48, 49, 50, 51] (by decide +kernel) (by decide +kernel)
set_option maxRecDepth 20000 in
theorem gX6_goes_X6_isHead : GoodIn wsX6_goes (wsV RX6 109 RX6 yX6_isHead wsX6_isHead) := goodIn_app (goodIn_of _ (by decide +kernel)) ggX6_goes_X6_isHead
set_option maxRecDepth 20000 in
theorem ggX6_goes_X6_in : GoodIn wsX6_goes wsX6_in := goodIn_r _ [16] (by decide +kernel) (by decide +kernel)
set_option maxRecDepth 20000 in
theorem gX6_goes_X6_in : GoodIn wsX6_goes (va_wsS RX6 19 yX6_in wsX6_in) := goodIn_app (goodIn_of _ (by decide +kernel)) ggX6_goes_X6_in
set_option maxRecDepth 20000 in
theorem ggX6_goes_X6_canGo : GoodIn wsX6_goes wsX6_canGo := goodIn_r _ [20, 13, 21, 22, 23, 7, 24, 25, 26, 27, 28, 46, 47, 48, 49, 50, 51] (by decide +kernel) (by decide +kernel)
set_option maxRecDepth 20000 in
theorem gX6_goes_X6_canGo : GoodIn wsX6_goes (wsV RX6 128 RX6 yX6_canGo wsX6_canGo) := goodIn_app (goodIn_of _ (by decide +kernel)) ggX6_goes_X6_canGo
set_option maxRecDepth 20000 in
theorem ggX6_goes_X6_feels : GoodIn wsX6_goes wsX6_feels := goodIn_r _ [32, 13, 46, 47, 48, 49, 50, 51] (by decide +kernel) (by decide +kernel)
set_option maxRecDepth 20000 in
theorem gX6_goes_X6_feels : GoodIn wsX6_goes (wsV RX6 131 RX6 yX6_feels wsX6_feels) := goodIn_app (goodIn_of _ (by decide +kernel)) ggX6_goes_X6_feels
set_option maxRecDepth 20000 in
theorem ggX6_goes_X6_remember : GoodIn wsX6_goes wsX6_remember := goodIn_r _ [36, 37, 38, 39, 40, 7, 41, 13, 46, 47, 48, 49, 50, 51] (by decide +kernel) (by decide +kernel)
set_option maxRecDepth 20000 in
theorem gX6_goes_X6_remember : GoodIn wsX6_goes (wsV RX6 118 RX6 yX6_remember wsX6_remember) := goodIn_app (goodIn_of _ (by decide +kernel)) ggX6_goes_X6_remember
set_option maxRecDepth 20000 in
theorem ggX6_goes_X6_goOver : GoodIn wsX6_goes wsX6_goOver := goodIn_r _ [45, 13, 21, 22, 23, 7, 24, 25, 26, 27, 28, 46, 47, 48, 49, 50, 51] (by decide +kernel) (by decide +kernel)
set_option maxRecDepth 20000 in
theorem gX6_goes_X6_goOver : GoodIn wsX6_goes (wsV RX6 134 RX6 yX6_goOver wsX6_goOver) := goodIn_app (goodIn_of _ (by decide +kernel)) ggX6_goes_X6_goOver
theorem dX6_goes_0 : decode cX6_goes 0 = .ok (.aload_n 0, 1) := by decide +kernel
theorem dX6_goes_1 : decode cX6_goes 1 = .ok (.iload_n 1, 1) := by decide +kernel
theorem dX6_goes_2 : decode cX6_goes 2 = .ok (.invokevirtual 109, 3) := by decide +kernel
theorem dX6_goes_5 : decode cX6_goes 5 = .ok (.ifCond .ne 6, 3) := by decide +kernel
theorem dX6_goes_8 : decode cX6_goes 8 = .ok (.ldc 102, 2) := by decide +kernel
theorem dX6_goes_10 : decode cX6_goes 10 = .ok (.ireturn, 1) := by decide +kernel
theorem dX6_goes_11 : decode cX6_goes 11 = .ok (.iload_n 2, 1) := by decide +kernel
theorem dX6_goes_12 : decode cX6_goes 12 = .ok (.iconst 0, 1) := by decide +kernel
theorem dX6_goes_13 : decode cX6_goes 13 = .ok (.iconst 1, 1) := by decide +kernel
theorem dX6_goes_14 : decode cX6_goes 14 = .ok (.invokestatic 19, 3) := by decide +kernel
theorem dX6_goes_17 : decode cX6_goes 17 = .ok (.ifCond .eq 13, 3) := by decide +kernel
theorem dX6_goes_20 : decode cX6_goes 20 = .ok (.iload_n 3, 1) := by decide +kernel
theorem dX6_goes_21 : decode cX6_goes 21 = .ok (.iconst 1, 1) := by decide +kernel
theorem dX6_goes_22 : decode cX6_goes 22 = .ok (.bipush 9, 2) := by decide +kernel
theorem dX6_goes_24 : decode cX6_goes 24 = .ok (.invokestatic 19, 3) := by decide +kernel
theorem dX6_goes_27 : decode cX6_goes 27 = .ok (.ifCond .ne 6, 3) := by decide +kernel
theorem dX6_goes_30 : decode cX6_goes 30 = .ok (.ldc 101, 2) := by decide +kernel
theorem dX6_goes_32 : decode cX6_goes 32 = .ok (.ireturn, 1) := by decide +kernel
theorem dX6_goes_33 : decode cX6_goes 33 = .ok (.aload_n 0, 1) := by decide +kernel
theorem dX6_goes_34 : decode cX6_goes 34 = .ok (.iload_n 1, 1) := by decide +kernel
theorem dX6_goes_35 : decode cX6_goes 35 = .ok (.iload_n 2, 1) := by decide +kernel
theorem dX6_goes_36 : decode cX6_goes 36 = .ok (.iload_n 3, 1) := by decide +kernel
theorem dX6_goes_37 : decode cX6_goes 37 = .ok (.invokevirtual 128, 3) := by decide +kernel
theorem dX6_goes_40 : decode cX6_goes 40 = .ok (.ifCond .eq 16, 3) := by decide +kernel
theorem dX6_goes_43 : decode cX6_goes 43 = .ok (.iload 4, 2) := by decide +kernel
theorem dX6_goes_45 : decode cX6_goes 45 = .ok (.ifCond .eq 14, 3) := by decide +kernel
theorem dX6_goes_48 : decode cX6_goes 48 = .ok (.aload_n 0, 1) := by decide +kernel
theorem dX6_goes_49 : decode cX6_goes 49 = .ok (.iload_n 1, 1) := by decide +kernel
theorem dX6_goes_50 : decode cX6_goes 50 = .ok (.invokevirtual 131, 3) := by decide +kernel
theorem dX6_goes_53 : decode cX6_goes 53 = .ok (.ifCond .ne 6, 3) := by decide +kernel
theorem dX6_goes_56 : decode cX6_goes 56 = .ok (.ldc 124, 2) := by decide +kernel
theorem dX6_goes_58 : decode cX6_goes 58 = .ok (.ireturn, 1) := by decide +kernel
theorem dX6_goes_59 : decode cX6_goes 59 = .ok (.aload_n 0, 1) := by decide +kernel
theorem dX6_goes_60 : decode cX6_goes 60 = .ok (.invokevirtual 118, 3) := by decide +kernel
theorem dX6_goes_63 : decode cX6_goes 63 = .ok (.aload_n 0, 1) := by decide +kernel
theorem dX6_goes_64 : decode cX6_goes 64 = .ok (.iload_n 1, 1) := by decide +kernel
theorem dX6_goes_65 : decode cX6_goes 65 = .ok (.iload_n 2, 1) := by decide +kernel
theorem dX6_goes_66 : decode cX6_goes 66 = .ok (.iload_n 3, 1) := by decide +kernel
theorem dX6_goes_67 : decode cX6_goes 67 = .ok (.iload 4, 2) := by decide +kernel
theorem dX6_goes_69 : decode cX6_goes 69 = .ok (.invokevirtual 134, 3) := by decide +kernel
theorem dX6_goes_72 : decode cX6_goes 72 = .ok (.ireturn, 1) := by decide +kernel
set_option maxRecDepth 20000 in
theorem ggX6_go_X6_goes : GoodIn wsX6_go wsX6_goes := goodIn_r _ [5, 6, 7, 8, 9, 10, 11, 4, 12, 13, 14, 15, 16, 17, 18, 19, 20, 21, 22, 23, 24, 25, 26, 27, 28, 29, 30, 31, 32, 33, 34, 35, 36, 37, 38, 39, 40, 41, 42, 43, 44, 45, 46, 47, 48, 49, 50, 51, 52, 53, 54, 55] (by decide +kernel) (by decide +kernel)
set_option maxRecDepth 20000 in
theorem gX6_go_X6_goes : GoodIn wsX6_go (wsV RX6 138 RX6 yX6_goes wsX6_goes) := goodIn_app (goodIn_of _ (by decide +kernel)) ggX6_go_X6_goes
theorem dX6_go_0 : decode cX6_go 0 = .ok (.aload_n 0, 1) := by decide +kernel
theorem dX6_go_1 : decode cX6_go 1 = .ok (.iload_n 1, 1) := by decide +kernel
theorem dX6_go_2 : decode cX6_go 2 = .ok (.iload_n 2, 1) := by decide +kernel
theorem dX6_go_3 : decode cX6_go 3 = .ok (.iload_n 3, 1) := by decide +kernel
theorem dX6_go_4 : decode cX6_go 4 = .ok (.iconst 1, 1) := by decide +kernel
theorem dX6_go_5 : decode cX6_go 5 = .ok (.invokevirtual 138, 3) := by decide +kernel
theorem dX6_go_8 : decode cX6_go 8 = .ok (.ireturn, 1) := by decide +kernel
set_option maxRecDepth 20000 in
theorem ggX6_miss_X6_goes : GoodIn wsX6_miss wsX6_goes := goodIn_r _ [5, 6, 7, 8, 9, 10, 11, 4, 12, 13, 14, 15, 16, 17, 18, 19, 20, 21, 22, 23, 24, 25, 26, 27, 28, 29, 30, 31, 32, 33, 34, 35, 36, 37, 38, 39, 40, 41, 42, 43, 44, 45, 46, 47, 48, 49, 50, 51, 52, 53, 54, 55] (by decide +kernel) (by decide +kernel)
set_option maxRecDepth 20000 in
theorem gX6_miss_X6_goes : GoodIn wsX6_miss (wsV RX6 138 RX6 yX6_goes wsX6_goes) := goodIn_app (goodIn_of _ (by decide +kernel)) ggX6_miss_X6_goes
theorem dX6_miss_0 : decode cX6_miss 0 = .ok (.aload_n 0, 1) := by decide +kernel
theorem dX6_miss_1 : decode cX6_miss 1 = .ok (.iload_n 1, 1) := by decide +kernel
theorem dX6_miss_2 : decode cX6_miss 2 = .ok (.iload_n 2, 1) := by decide +kernel
theorem dX6_miss_3 : decode cX6_miss 3 = .ok (.iload_n 3, 1) := by decide +kernel
theorem dX6_miss_4 : decode cX6_miss 4 = .ok (.iconst 0, 1) := by decide +kernel
theorem dX6_miss_5 : decode cX6_miss 5 = .ok (.invokevirtual 138, 3) := by decide +kernel
theorem dX6_miss_8 : decode cX6_miss 8 = .ok (.ireturn, 1) := by decide +kernel
set_option maxRecDepth 20000 in
theorem ggX6_tick_X6_isSet : GoodIn wsX6_tick wsX6_isSet := goodIn_r _ [6, 7, 8, 9, 5, 10, 11, 12, 13, 14, 79, 80, 81, 82, 83, 84] (by decide +kernel) (by decide +kernel)
set_option maxRecDepth 20000 in
theorem gX6_tick_X6_isSet : GoodIn wsX6_tick (wsV RX6 141 RX6 yX6_isSet wsX6_isSet) := goodIn_app (goodIn_of _ (by decide +kernel)) ggX6_tick_X6_isSet
set_option maxRecDepth 20000 in
theorem ggX6_tick_X6_remember : GoodIn wsX6_tick wsX6_remember := goodIn_r _ [18, 19, 20, 21, 22, 5, 23, 11, 79, 80, 81, 82, 83, 84] (by decide +kernel) (by decide +kernel)
set_option maxRecDepth 20000 in
theorem gX6_tick_X6_remember : GoodIn wsX6_tick (wsV RX6 118 RX6 yX6_remember wsX6_remember) := goodIn_app (goodIn_of _ (by decide +kernel)) ggX6_tick_X6_remember
set_option maxRecDepth 20000 in
theorem ggX6_tick_X6_tickIn : GoodIn wsX6_tick wsX6_tickIn := goodIn_r _ [27, 11, 7, 8, 9, 5, 10, 28, 29, 30, 31, 32, 33, 34, 35, 36, 37, 38, 39, 40, 41, 42, 43, 44, 45, 46, 47, 48, 49, 50, 51, 52, 53, 54, 55, 56, 57, 58, 59, 60, 61, 62, 63, 64, 65, 66, 67, 68, 69, 70, 71, 72, 73, 74, 79, 80, 81, 82, 83, 84] (by decide +kernel) (by decide +kernel)
set_option maxRecDepth 20000 in
theorem gX6_tick_X6_tickIn : GoodIn wsX6_tick (wsV RX6 144 RX6 yX6_tickIn wsX6_tickIn) := goodIn_app (goodIn_of _ (by decide +kernel)) ggX6_tick_X6_tickIn
set_option maxRecDepth 20000 in
theorem ggX6_tick_X6_called : GoodIn wsX6_tick wsX6_called := goodIn_r _ [78, 11, 79, 80, 81, 82, 83, 84] (by decide +kernel) (by decide +kernel)
set_option maxRecDepth 20000 in
theorem gX6_tick_X6_called : GoodIn wsX6_tick (wsV RX6 81 RX6 yX6_called wsX6_called) := goodIn_app (goodIn_of _ (by decide +kernel)) ggX6_tick_X6_called
theorem dX6_tick_0 : decode cX6_tick 0 = .ok (.aload_n 0, 1) := by decide +kernel
theorem dX6_tick_1 : decode cX6_tick 1 = .ok (.iload_n 1, 1) := by decide +kernel
theorem dX6_tick_2 : decode cX6_tick 2 = .ok (.invokevirtual 141, 3) := by decide +kernel
theorem dX6_tick_5 : decode cX6_tick 5 = .ok (.ifCond .ne 6, 3) := by decide +kernel
theorem dX6_tick_8 : decode cX6_tick 8 = .ok (.ldc 102, 2) := by decide +kernel
theorem dX6_tick_10 : decode cX6_tick 10 = .ok (.ireturn, 1) := by decide +kernel
theorem dX6_tick_11 : decode cX6_tick 11 = .ok (.aload_n 0, 1) := by decide +kernel
theorem dX6_tick_12 : decode cX6_tick 12 = .ok (.invokevirtual 118, 3) := by decide +kernel
theorem dX6_tick_15 : decode cX6_tick 15 = .ok (.aload_n 0, 1) := by decide +kernel
theorem dX6_tick_16 : decode cX6_tick 16 = .ok (.iconst 0, 1) := by decide +kernel
theorem dX6_tick_17 : decode cX6_tick 17 = .ok (.iload_n 1, 1) := by decide +kernel
theorem dX6_tick_18 : decode cX6_tick 18 = .ok (.invokevirtual 144, 3) := by decide +kernel
theorem dX6_tick_21 : decode cX6_tick 21 = .ok (.aload_n 0, 1) := by decide +kernel
theorem dX6_tick_22 : decode cX6_tick 22 = .ok (.iconst 0, 1) := by decide +kernel
theorem dX6_tick_23 : decode cX6_tick 23 = .ok (.iconst 0, 1) := by decide +kernel
theorem dX6_tick_24 : decode cX6_tick 24 = .ok (.invokevirtual 81, 3) := by decide +kernel
theorem dX6_tick_27 : decode cX6_tick 27 = .ok (.ireturn, 1) := by decide +kernel
set_option maxRecDepth 20000 in
theorem ggX6_reset_X6_isSection : GoodIn wsX6_reset wsX6_isSection := goodIn_r _ [8, 2, 9, 10, 7, 11, 21, 22, 23, 24, 25, 26] (by decide +kernel) (by decide +kernel)
set_option maxRecDepth 20000 in
theorem gX6_reset_X6_isSection : GoodIn wsX6_reset (wsV RX6 78 RX6 yX6_isSection wsX6_isSection) := goodIn_app (goodIn_of _ (by decide +kernel)) ggX6_reset_X6_isSection
set_option maxRecDepth 20000 in
theorem ggX6_reset_X6_remember : GoodIn wsX6_reset wsX6_remember := goodIn_r _ [15, 16, 17, 18, 19, 7, 20, 2, 21, 22, 23, 24, 25, 26] (by decide +kernel) (by decide +kernel)
set_option maxRecDepth 20000 in
theorem gX6_reset_X6_remember : GoodIn wsX6_reset (wsV RX6 118 RX6 yX6_remember wsX6_remember) := goodIn_app (goodIn_of _ (by decide +kernel)) ggX6_reset_X6_remember
theorem dX6_reset_0 : decode cX6_reset 0 = .ok (.aload_n 0, 1) := by decide +kernel
theorem dX6_reset_1 : decode cX6_reset 1 = .ok (.iload_n 1, 1) := by decide +kernel
theorem dX6_reset_2 : decode cX6_reset 2 = .ok (.invokevirtual 78, 3) := by decide +kernel
theorem dX6_reset_5 : decode cX6_reset 5 = .ok (.ifCond .ne 6, 3) := by decide +kernel
theorem dX6_reset_8 : decode cX6_reset 8 = .ok (.ldc 102, 2) := by decide +kernel
theorem dX6_reset_10 : decode cX6_reset 10 = .ok (.ireturn, 1) := by decide +kernel
theorem dX6_reset_11 : decode cX6_reset 11 = .ok (.aload_n 0, 1) := by decide +kernel
theorem dX6_reset_12 : decode cX6_reset 12 = .ok (.getfield 7, 3) := by decide +kernel
theorem dX6_reset_15 : decode cX6_reset 15 = .ok (.iconst 3, 1) := by decide +kernel
theorem dX6_reset_16 : decode cX6_reset 16 = .ok (.iload_n 1, 1) := by decide +kernel
theorem dX6_reset_17 : decode cX6_reset 17 = .ok (.iadd, 1) := by decide +kernel
theorem dX6_reset_18 : decode cX6_reset 18 = .ok (.iaload, 1) := by decide +kernel
theorem dX6_reset_19 : decode cX6_reset 19 = .ok (.iconst 2, 1) := by decide +kernel
theorem dX6_reset_20 : decode cX6_reset 20 = .ok (.if_icmp .eq 6, 3) := by decide +kernel
theorem dX6_reset_23 : decode cX6_reset 23 = .ok (.ldc 124, 2) := by decide +kernel
theorem dX6_reset_25 : decode cX6_reset 25 = .ok (.ireturn, 1) := by decide +kernel
theorem dX6_reset_26 : decode cX6_reset 26 = .ok (.aload_n 0, 1) := by decide +kernel
theorem dX6_reset_27 : decode cX6_reset 27 = .ok (.invokevirtual 118, 3) := by decide +kernel
theorem dX6_reset_30 : decode cX6_reset 30 = .ok (.aload_n 0, 1) := by decide +kernel
theorem dX6_reset_31 : decode cX6_reset 31 = .ok (.getfield 7, 3) := by decide +kernel
theorem dX6_reset_34 : decode cX6_reset 34 = .ok (.bipush 9, 2) := by decide +kernel
theorem dX6_reset_36 : decode cX6_reset 36 = .ok (.iload_n 1, 1) := by decide +kernel
theorem dX6_reset_37 : decode cX6_reset 37 = .ok (.iadd, 1) := by decide +kernel
theorem dX6_reset_38 : decode cX6_reset 38 = .ok (.iaload, 1) := by decide +kernel
theorem dX6_reset_39 : decode cX6_reset 39 = .ok (.sipush 1000, 3) := by decide +kernel
theorem dX6_reset_42 : decode cX6_reset 42 = .ok (.iadd, 1) := by decide +kernel
theorem dX6_reset_43 : decode cX6_reset 43 = .ok (.istore_n 2, 1) := by decide +kernel
theorem dX6_reset_44 : decode cX6_reset 44 = .ok (.aload_n 0, 1) := by decide +kernel
theorem dX6_reset_45 : decode cX6_reset 45 = .ok (.getfield 7, 3) := by decide +kernel
theorem dX6_reset_48 : decode cX6_reset 48 = .ok (.bipush 9, 2) := by decide +kernel
theorem dX6_reset_50 : decode cX6_reset 50 = .ok (.iload_n 1, 1) := by decide +kernel
theorem dX6_reset_51 : decode cX6_reset 51 = .ok (.iadd, 1) := by decide +kernel
theorem dX6_reset_52 : decode cX6_reset 52 = .ok (.iconst 0, 1) := by decide +kernel
theorem dX6_reset_53 : decode cX6_reset 53 = .ok (.iastore, 1) := by decide +kernel
theorem dX6_reset_54 : decode cX6_reset 54 = .ok (.aload_n 0, 1) := by decide +kernel
theorem dX6_reset_55 : decode cX6_reset 55 = .ok (.getfield 7, 3) := by decide +kernel
theorem dX6_reset_58 : decode cX6_reset 58 = .ok (.iconst 3, 1) := by decide +kernel
theorem dX6_reset_59 : decode cX6_reset 59 = .ok (.iload_n 1, 1) := by decide +kernel
theorem dX6_reset_60 : decode cX6_reset 60 = .ok (.iadd, 1) := by decide +kernel
theorem dX6_reset_61 : decode cX6_reset 61 = .ok (.iconst 3, 1) := by decide +kernel
theorem dX6_reset_62 : decode cX6_reset 62 = .ok (.iastore, 1) := by decide +kernel
theorem dX6_reset_63 : decode cX6_reset 63 = .ok (.aload_n 0, 1) := by decide +kernel
theorem dX6_reset_64 : decode cX6_reset 64 = .ok (.getfield 7, 3) := by decide +kernel
theorem dX6_reset_67 : decode cX6_reset 67 = .ok (.bipush 21, 2) := by decide +kernel
theorem dX6_reset_69 : decode cX6_reset 69 = .ok (.iload_n 1, 1) := by decide +kernel
theorem dX6_reset_70 : decode cX6_reset 70 = .ok (.iadd, 1) := by decide +kernel
theorem dX6_reset_71 : decode cX6_reset 71 = .ok (.iconst 0, 1) := by decide +kernel
theorem dX6_reset_72 : decode cX6_reset 72 = .ok (.iastore, 1) := by decide +kernel
theorem dX6_reset_73 : decode cX6_reset 73 = .ok (.iload_n 2, 1) := by decide +kernel
theorem dX6_reset_74 : decode cX6_reset 74 = .ok (.ireturn, 1) := by decide +kernel
set_option maxRecDepth 20000 in
theorem ggX6_repair_X6_isHead : GoodIn wsX6_repair wsX6_isHead := goodIn_r _ [8, 9, 10, 11, 7, 12, 2, 13, 14, 15, 25, 26, 27, 28, 29, 30] (by decide +kernel) (by decide +kernel)
set_option maxRecDepth 20000 in
theorem gX6_repair_X6_isHead : GoodIn wsX6_repair (wsV RX6 109 RX6 yX6_isHead wsX6_isHead) := goodIn_app (goodIn_of _ (by decide +kernel)) ggX6_repair_X6_isHead
set_option maxRecDepth 20000 in
theorem ggX6_repair_X6_remember : GoodIn wsX6_repair wsX6_remember := goodIn_r _ [19, 20, 21, 22, 23, 7, 24, 2, 25, 26, 27, 28, 29, 30] (by decide +kernel) (by decide +kernel)
set_option maxRecDepth 20000 in
theorem gX6_repair_X6_remember : GoodIn wsX6_repair (wsV RX6 118 RX6 yX6_remember wsX6_remember) := goodIn_app (goodIn_of _ (by decide +kernel)) ggX6_repair_X6_remember
theorem dX6_repair_0 : decode cX6_repair 0 = .ok (.aload_n 0, 1) := by decide +kernel
theorem dX6_repair_1 : decode cX6_repair 1 = .ok (.iload_n 1, 1) := by decide +kernel
theorem dX6_repair_2 : decode cX6_repair 2 = .ok (.invokevirtual 109, 3) := by decide +kernel
theorem dX6_repair_5 : decode cX6_repair 5 = .ok (.ifCond .ne 6, 3) := by decide +kernel
theorem dX6_repair_8 : decode cX6_repair 8 = .ok (.ldc 102, 2) := by decide +kernel
theorem dX6_repair_10 : decode cX6_repair 10 = .ok (.ireturn, 1) := by decide +kernel
theorem dX6_repair_11 : decode cX6_repair 11 = .ok (.aload_n 0, 1) := by decide +kernel
theorem dX6_repair_12 : decode cX6_repair 12 = .ok (.getfield 7, 3) := by decide +kernel
theorem dX6_repair_15 : decode cX6_repair 15 = .ok (.bipush 62, 2) := by decide +kernel
theorem dX6_repair_17 : decode cX6_repair 17 = .ok (.iload_n 1, 1) := by decide +kernel
theorem dX6_repair_18 : decode cX6_repair 18 = .ok (.iadd, 1) := by decide +kernel
theorem dX6_repair_19 : decode cX6_repair 19 = .ok (.iaload, 1) := by decide +kernel
theorem dX6_repair_20 : decode cX6_repair 20 = .ok (.ifCond .ne 6, 3) := by decide +kernel
theorem dX6_repair_23 : decode cX6_repair 23 = .ok (.ldc 124, 2) := by decide +kernel
theorem dX6_repair_25 : decode cX6_repair 25 = .ok (.ireturn, 1) := by decide +kernel
theorem dX6_repair_26 : decode cX6_repair 26 = .ok (.aload_n 0, 1) := by decide +kernel
theorem dX6_repair_27 : decode cX6_repair 27 = .ok (.invokevirtual 118, 3) := by decide +kernel
theorem dX6_repair_30 : decode cX6_repair 30 = .ok (.aload_n 0, 1) := by decide +kernel
theorem dX6_repair_31 : decode cX6_repair 31 = .ok (.getfield 7, 3) := by decide +kernel
theorem dX6_repair_34 : decode cX6_repair 34 = .ok (.bipush 27, 2) := by decide +kernel
theorem dX6_repair_36 : decode cX6_repair 36 = .ok (.iload_n 1, 1) := by decide +kernel
theorem dX6_repair_37 : decode cX6_repair 37 = .ok (.iadd, 1) := by decide +kernel
theorem dX6_repair_38 : decode cX6_repair 38 = .ok (.iaload, 1) := by decide +kernel
theorem dX6_repair_39 : decode cX6_repair 39 = .ok (.ifCond .ne 7, 3) := by decide +kernel
theorem dX6_repair_42 : decode cX6_repair 42 = .ok (.iconst 1, 1) := by decide +kernel
theorem dX6_repair_43 : decode cX6_repair 43 = .ok (.goto 4, 3) := by decide +kernel
theorem dX6_repair_46 : decode cX6_repair 46 = .ok (.iconst 0, 1) := by decide +kernel
theorem dX6_repair_47 : decode cX6_repair 47 = .ok (.istore_n 2, 1) := by decide +kernel
theorem dX6_repair_48 : decode cX6_repair 48 = .ok (.aload_n 0, 1) := by decide +kernel
theorem dX6_repair_49 : decode cX6_repair 49 = .ok (.getfield 7, 3) := by decide +kernel
theorem dX6_repair_52 : decode cX6_repair 52 = .ok (.bipush 62, 2) := by decide +kernel
theorem dX6_repair_54 : decode cX6_repair 54 = .ok (.iload_n 1, 1) := by decide +kernel
theorem dX6_repair_55 : decode cX6_repair 55 = .ok (.iadd, 1) := by decide +kernel
theorem dX6_repair_56 : decode cX6_repair 56 = .ok (.iconst 0, 1) := by decide +kernel
theorem dX6_repair_57 : decode cX6_repair 57 = .ok (.iastore, 1) := by decide +kernel
theorem dX6_repair_58 : decode cX6_repair 58 = .ok (.aload_n 0, 1) := by decide +kernel
theorem dX6_repair_59 : decode cX6_repair 59 = .ok (.getfield 7, 3) := by decide +kernel
theorem dX6_repair_62 : decode cX6_repair 62 = .ok (.bipush 27, 2) := by decide +kernel
theorem dX6_repair_64 : decode cX6_repair 64 = .ok (.iload_n 1, 1) := by decide +kernel
theorem dX6_repair_65 : decode cX6_repair 65 = .ok (.iadd, 1) := by decide +kernel
theorem dX6_repair_66 : decode cX6_repair 66 = .ok (.iconst 0, 1) := by decide +kernel
theorem dX6_repair_67 : decode cX6_repair 67 = .ok (.iastore, 1) := by decide +kernel
theorem dX6_repair_68 : decode cX6_repair 68 = .ok (.aload_n 0, 1) := by decide +kernel
theorem dX6_repair_69 : decode cX6_repair 69 = .ok (.getfield 7, 3) := by decide +kernel
theorem dX6_repair_72 : decode cX6_repair 72 = .ok (.bipush 34, 2) := by decide +kernel
theorem dX6_repair_74 : decode cX6_repair 74 = .ok (.iload_n 1, 1) := by decide +kernel
theorem dX6_repair_75 : decode cX6_repair 75 = .ok (.iadd, 1) := by decide +kernel
theorem dX6_repair_76 : decode cX6_repair 76 = .ok (.iconst 0, 1) := by decide +kernel
theorem dX6_repair_77 : decode cX6_repair 77 = .ok (.iastore, 1) := by decide +kernel
theorem dX6_repair_78 : decode cX6_repair 78 = .ok (.iload_n 2, 1) := by decide +kernel
theorem dX6_repair_79 : decode cX6_repair 79 = .ok (.ireturn, 1) := by decide +kernel
theorem dX6_draw_0 : decode cX6_draw 0 = .ok (.aload_n 0, 1) := by decide +kernel
theorem dX6_draw_1 : decode cX6_draw 1 = .ok (.getfield 7, 3) := by decide +kernel
theorem dX6_draw_4 : decode cX6_draw 4 = .ok (.bipush 83, 2) := by decide +kernel
theorem dX6_draw_6 : decode cX6_draw 6 = .ok (.iaload, 1) := by decide +kernel
theorem dX6_draw_7 : decode cX6_draw 7 = .ok (.i2l, 1) := by decide +kernel
theorem dX6_draw_8 : decode cX6_draw 8 = .ok (.ldc2_w 147, 3) := by decide +kernel
theorem dX6_draw_11 : decode cX6_draw 11 = .ok (.lmul, 1) := by decide +kernel
theorem dX6_draw_12 : decode cX6_draw 12 = .ok (.ldc2_w 149, 3) := by decide +kernel
theorem dX6_draw_15 : decode cX6_draw 15 = .ok (.ladd, 1) := by decide +kernel
theorem dX6_draw_16 : decode cX6_draw 16 = .ok (.ldc2_w 151, 3) := by decide +kernel
theorem dX6_draw_19 : decode cX6_draw 19 = .ok (.lrem, 1) := by decide +kernel
theorem dX6_draw_20 : decode cX6_draw 20 = .ok (.lstore_n 2, 1) := by decide +kernel
theorem dX6_draw_21 : decode cX6_draw 21 = .ok (.aload_n 0, 1) := by decide +kernel
theorem dX6_draw_22 : decode cX6_draw 22 = .ok (.getfield 7, 3) := by decide +kernel
theorem dX6_draw_25 : decode cX6_draw 25 = .ok (.bipush 83, 2) := by decide +kernel
theorem dX6_draw_27 : decode cX6_draw 27 = .ok (.lload_n 2, 1) := by decide +kernel
theorem dX6_draw_28 : decode cX6_draw 28 = .ok (.l2i, 1) := by decide +kernel
theorem dX6_draw_29 : decode cX6_draw 29 = .ok (.iastore, 1) := by decide +kernel
theorem dX6_draw_30 : decode cX6_draw 30 = .ok (.aload_n 0, 1) := by decide +kernel
theorem dX6_draw_31 : decode cX6_draw 31 = .ok (.getfield 7, 3) := by decide +kernel
theorem dX6_draw_34 : decode cX6_draw 34 = .ok (.bipush 83, 2) := by decide +kernel
theorem dX6_draw_36 : decode cX6_draw 36 = .ok (.iaload, 1) := by decide +kernel
theorem dX6_draw_37 : decode cX6_draw 37 = .ok (.ldc 153, 2) := by decide +kernel
theorem dX6_draw_39 : decode cX6_draw 39 = .ok (.idiv, 1) := by decide +kernel
theorem dX6_draw_40 : decode cX6_draw 40 = .ok (.iload_n 1, 1) := by decide +kernel
theorem dX6_draw_41 : decode cX6_draw 41 = .ok (.irem, 1) := by decide +kernel
theorem dX6_draw_42 : decode cX6_draw 42 = .ok (.ireturn, 1) := by decide +kernel
set_option maxRecDepth 20000 in
theorem ggX6_time_X6_heads : GoodIn wsX6_time wsX6_heads := goodIn_r _ [5, 6, 78, 79, 80, 81, 82, 83] (by decide +kernel) (by decide +kernel)
set_option maxRecDepth 20000 in
theorem gX6_time_X6_heads : GoodIn wsX6_time (wsV RX6 23 RX6 yX6_heads wsX6_heads) := goodIn_app (goodIn_of _ (by decide +kernel)) ggX6_time_X6_heads
set_option maxRecDepth 20000 in
theorem ggX6_time_X6_draw : GoodIn wsX6_time wsX6_draw := goodIn_r _ [10, 6, 11, 12, 13, 14, 78, 79, 80, 81, 82, 83] (by decide +kernel) (by decide +kernel)
set_option maxRecDepth 20000 in
theorem gX6_time_X6_draw : GoodIn wsX6_time (wsV RX6 154 RX6 yX6_draw wsX6_draw) := goodIn_app (goodIn_of _ (by decide +kernel)) ggX6_time_X6_draw
set_option maxRecDepth 20000 in
theorem ggX6_time_X6_canGo : GoodIn wsX6_time wsX6_canGo := goodIn_r _ [18, 6, 19, 20, 21, 4, 22, 23, 24, 25, 26, 78, 79, 80, 81, 82, 83] (by decide +kernel) (by decide +kernel)
set_option maxRecDepth 20000 in
theorem gX6_time_X6_canGo : GoodIn wsX6_time (wsV RX6 128 RX6 yX6_canGo wsX6_canGo) := goodIn_app (goodIn_of _ (by decide +kernel)) ggX6_time_X6_canGo
set_option maxRecDepth 20000 in
theorem ggX6_time_X6_feels : GoodIn wsX6_time wsX6_feels := goodIn_r _ [30, 6, 78, 79, 80, 81, 82, 83] (by decide +kernel) (by decide +kernel)
set_option maxRecDepth 20000 in
theorem gX6_time_X6_feels : GoodIn wsX6_time (wsV RX6 131 RX6 yX6_feels wsX6_feels) := goodIn_app (goodIn_of _ (by decide +kernel)) ggX6_time_X6_feels
set_option maxRecDepth 20000 in
theorem ggX6_time_X6_goOver : GoodIn wsX6_time wsX6_goOver := goodIn_r _ [34, 6, 19, 20, 21, 4, 22, 23, 24, 25, 26, 78, 79, 80, 81, 82, 83] (by decide +kernel) (by decide +kernel)
set_option maxRecDepth 20000 in
theorem gX6_time_X6_goOver : GoodIn wsX6_time (wsV RX6 134 RX6 yX6_goOver wsX6_goOver) := goodIn_app (goodIn_of _ (by decide +kernel)) ggX6_time_X6_goOver
set_option maxRecDepth 20000 in
theorem ggX6_time_X6_tickIn : GoodIn wsX6_time wsX6_tickIn := goodIn_r _ [38, 6, 1, 2, 3, 4, 5, 39, 40, 41, 42, 43, 44, 45, 23, 24, 25, 26, 19, 20, 21, 22, 46, 47, 48, 49, 50, 51, 52, 53, 54, 55, 56, 57, 58, 59, 60, 61, 62, 63, 64, 65, 66, 67, 68, 69, 70, 71, 72, 73, 74, 75, 76, 77, 78, 79, 80, 81, 82, 83] (by decide +kernel) (by decide +kernel)
set_option maxRecDepth 20000 in
theorem gX6_time_X6_tickIn : GoodIn wsX6_time (wsV RX6 144 RX6 yX6_tickIn wsX6_tickIn) := goodIn_app (goodIn_of _ (by decide +kernel)) ggX6_time_X6_tickIn
theorem dX6_time_0 : decode cX6_time 0 = .ok (.aload_n 0, 1) := by decide +kernel
theorem dX6_time_1 : decode cX6_time 1 = .ok (.aload_n 0, 1) := by decide +kernel
theorem dX6_time_2 : decode cX6_time 2 = .ok (.invokevirtual 23, 3) := by decide +kernel
theorem dX6_time_5 : decode cX6_time 5 = .ok (.invokevirtual 154, 3) := by decide +kernel
theorem dX6_time_8 : decode cX6_time 8 = .ok (.istore_n 1, 1) := by decide +kernel
theorem dX6_time_9 : decode cX6_time 9 = .ok (.aload_n 0, 1) := by decide +kernel
theorem dX6_time_10 : decode cX6_time 10 = .ok (.iconst 2, 1) := by decide +kernel
theorem dX6_time_11 : decode cX6_time 11 = .ok (.invokevirtual 154, 3) := by decide +kernel
theorem dX6_time_14 : decode cX6_time 14 = .ok (.istore_n 2, 1) := by decide +kernel
theorem dX6_time_15 : decode cX6_time 15 = .ok (.aload_n 0, 1) := by decide +kernel
theorem dX6_time_16 : decode cX6_time 16 = .ok (.iconst 3, 1) := by decide +kernel
theorem dX6_time_17 : decode cX6_time 17 = .ok (.invokevirtual 154, 3) := by decide +kernel
theorem dX6_time_20 : decode cX6_time 20 = .ok (.iconst 1, 1) := by decide +kernel
theorem dX6_time_21 : decode cX6_time 21 = .ok (.iadd, 1) := by decide +kernel
theorem dX6_time_22 : decode cX6_time 22 = .ok (.istore_n 3, 1) := by decide +kernel
theorem dX6_time_23 : decode cX6_time 23 = .ok (.aload_n 0, 1) := by decide +kernel
theorem dX6_time_24 : decode cX6_time 24 = .ok (.bipush 16, 2) := by decide +kernel
theorem dX6_time_26 : decode cX6_time 26 = .ok (.invokevirtual 154, 3) := by decide +kernel
theorem dX6_time_29 : decode cX6_time 29 = .ok (.istore 4, 2) := by decide +kernel
theorem dX6_time_31 : decode cX6_time 31 = .ok (.aload_n 0, 1) := by decide +kernel
theorem dX6_time_32 : decode cX6_time 32 = .ok (.iconst 1, 1) := by decide +kernel
theorem dX6_time_33 : decode cX6_time 33 = .ok (.aload_n 0, 1) := by decide +kernel
theorem dX6_time_34 : decode cX6_time 34 = .ok (.invokevirtual 23, 3) := by decide +kernel
theorem dX6_time_37 : decode cX6_time 37 = .ok (.ishl, 1) := by decide +kernel
theorem dX6_time_38 : decode cX6_time 38 = .ok (.invokevirtual 154, 3) := by decide +kernel
theorem dX6_time_41 : decode cX6_time 41 = .ok (.istore 5, 2) := by decide +kernel
theorem dX6_time_43 : decode cX6_time 43 = .ok (.aload_n 0, 1) := by decide +kernel
theorem dX6_time_44 : decode cX6_time 44 = .ok (.iload_n 1, 1) := by decide +kernel
theorem dX6_time_45 : decode cX6_time 45 = .ok (.iload_n 2, 1) := by decide +kernel
theorem dX6_time_46 : decode cX6_time 46 = .ok (.iload_n 3, 1) := by decide +kernel
theorem dX6_time_47 : decode cX6_time 47 = .ok (.invokevirtual 128, 3) := by decide +kernel
theorem dX6_time_50 : decode cX6_time 50 = .ok (.ifCond .eq 30, 3) := by decide +kernel
theorem dX6_time_53 : decode cX6_time 53 = .ok (.aload_n 0, 1) := by decide +kernel
theorem dX6_time_54 : decode cX6_time 54 = .ok (.iload_n 1, 1) := by decide +kernel
theorem dX6_time_55 : decode cX6_time 55 = .ok (.iload_n 2, 1) := by decide +kernel
theorem dX6_time_56 : decode cX6_time 56 = .ok (.iload_n 3, 1) := by decide +kernel
theorem dX6_time_57 : decode cX6_time 57 = .ok (.iload 4, 2) := by decide +kernel
theorem dX6_time_59 : decode cX6_time 59 = .ok (.ifCond .eq 15, 3) := by decide +kernel
theorem dX6_time_62 : decode cX6_time 62 = .ok (.aload_n 0, 1) := by decide +kernel
theorem dX6_time_63 : decode cX6_time 63 = .ok (.iload_n 1, 1) := by decide +kernel
theorem dX6_time_64 : decode cX6_time 64 = .ok (.invokevirtual 131, 3) := by decide +kernel
theorem dX6_time_67 : decode cX6_time 67 = .ok (.ifCond .eq 7, 3) := by decide +kernel
theorem dX6_time_70 : decode cX6_time 70 = .ok (.iconst 1, 1) := by decide +kernel
theorem dX6_time_71 : decode cX6_time 71 = .ok (.goto 4, 3) := by decide +kernel
theorem dX6_time_74 : decode cX6_time 74 = .ok (.iconst 0, 1) := by decide +kernel
theorem dX6_time_75 : decode cX6_time 75 = .ok (.invokevirtual 134, 3) := by decide +kernel
theorem dX6_time_78 : decode cX6_time 78 = .ok (.istore 6, 2) := by decide +kernel
theorem dX6_time_80 : decode cX6_time 80 = .ok (.aload_n 0, 1) := by decide +kernel
theorem dX6_time_81 : decode cX6_time 81 = .ok (.iconst 0, 1) := by decide +kernel
theorem dX6_time_82 : decode cX6_time 82 = .ok (.iload 4, 2) := by decide +kernel
theorem dX6_time_84 : decode cX6_time 84 = .ok (.iconst 4, 1) := by decide +kernel
theorem dX6_time_85 : decode cX6_time 85 = .ok (.if_icmp .ge 8, 3) := by decide +kernel
theorem dX6_time_88 : decode cX6_time 88 = .ok (.iload 5, 2) := by decide +kernel
theorem dX6_time_90 : decode cX6_time 90 = .ok (.goto 4, 3) := by decide +kernel
theorem dX6_time_93 : decode cX6_time 93 = .ok (.iconst 0, 1) := by decide +kernel
theorem dX6_time_94 : decode cX6_time 94 = .ok (.invokevirtual 144, 3) := by decide +kernel
theorem dX6_time_97 : decode cX6_time 97 = .ok (.return_, 1) := by decide +kernel
set_option maxRecDepth 20000 in
theorem ggX6_drift_X6_in : GoodIn wsX6_drift wsX6_in := goodIn_r _ [5] (by decide +kernel) (by decide +kernel)
set_option maxRecDepth 20000 in
theorem gX6_drift_X6_in : GoodIn wsX6_drift (va_wsS RX6 19 yX6_in wsX6_in) := goodIn_app (goodIn_of _ (by decide +kernel)) ggX6_drift_X6_in
set_option maxRecDepth 20000 in
theorem ggX6_drift_X6_remember : GoodIn wsX6_drift wsX6_remember := goodIn_r _ [9, 10, 11, 12, 13, 4, 14, 15, 99, 100, 101, 102, 103, 104] (by decide +kernel) (by decide +kernel)
set_option maxRecDepth 20000 in
theorem gX6_drift_X6_remember : GoodIn wsX6_drift (wsV RX6 118 RX6 yX6_remember wsX6_remember) := goodIn_app (goodIn_of _ (by decide +kernel)) ggX6_drift_X6_remember
set_option maxRecDepth 20000 in
theorem ggX6_drift_X6_time : GoodIn wsX6_drift wsX6_time := goodIn_r _ [19, 20, 21, 22, 4, 23, 15, 24, 25, 26, 27, 28, 29, 30, 31, 32, 33, 34, 35, 36, 37, 38, 39, 40, 41, 42, 43, 44, 45, 46, 47, 48, 49, 50, 51, 52, 53, 54, 55, 56, 57, 58, 59, 60, 61, 62, 63, 64, 65, 66, 67, 68, 69, 70, 71, 72, 73, 74, 75, 76, 77, 78, 79, 80, 81, 82, 83, 84, 85, 86, 87, 88, 89, 90, 91, 92, 93, 94, 99, 100, 101, 102, 103, 104] (by decide +kernel) (by decide +kernel)
set_option maxRecDepth 20000 in
theorem gX6_drift_X6_time : GoodIn wsX6_drift (wsV RX6 157 RX6 yX6_time wsX6_time) := goodIn_app (goodIn_of _ (by decide +kernel)) ggX6_drift_X6_time
set_option maxRecDepth 20000 in
theorem ggX6_drift_X6_called : GoodIn wsX6_drift wsX6_called := goodIn_r _ [98, 15, 99, 100, 101, 102, 103, 104] (by decide +kernel) (by decide +kernel)
set_option maxRecDepth 20000 in
theorem gX6_drift_X6_called : GoodIn wsX6_drift (wsV RX6 81 RX6 yX6_called wsX6_called) := goodIn_app (goodIn_of _ (by decide +kernel)) ggX6_drift_X6_called
theorem dX6_drift_0 : decode cX6_drift 0 = .ok (.iload_n 1, 1) := by decide +kernel
theorem dX6_drift_1 : decode cX6_drift 1 = .ok (.iconst 1, 1) := by decide +kernel
theorem dX6_drift_2 : decode cX6_drift 2 = .ok (.bipush 16, 2) := by decide +kernel
theorem dX6_drift_4 : decode cX6_drift 4 = .ok (.invokestatic 19, 3) := by decide +kernel
theorem dX6_drift_7 : decode cX6_drift 7 = .ok (.ifCond .ne 6, 3) := by decide +kernel
theorem dX6_drift_10 : decode cX6_drift 10 = .ok (.ldc 101, 2) := by decide +kernel
theorem dX6_drift_12 : decode cX6_drift 12 = .ok (.ireturn, 1) := by decide +kernel
theorem dX6_drift_13 : decode cX6_drift 13 = .ok (.iconst 0, 1) := by decide +kernel
theorem dX6_drift_14 : decode cX6_drift 14 = .ok (.istore_n 2, 1) := by decide +kernel
theorem dX6_drift_15 : decode cX6_drift 15 = .ok (.iload_n 2, 1) := by decide +kernel
theorem dX6_drift_16 : decode cX6_drift 16 = .ok (.iload_n 1, 1) := by decide +kernel
theorem dX6_drift_17 : decode cX6_drift 17 = .ok (.if_icmp .ge 17, 3) := by decide +kernel
theorem dX6_drift_20 : decode cX6_drift 20 = .ok (.aload_n 0, 1) := by decide +kernel
theorem dX6_drift_21 : decode cX6_drift 21 = .ok (.invokevirtual 118, 3) := by decide +kernel
theorem dX6_drift_24 : decode cX6_drift 24 = .ok (.aload_n 0, 1) := by decide +kernel
theorem dX6_drift_25 : decode cX6_drift 25 = .ok (.invokevirtual 157, 3) := by decide +kernel
theorem dX6_drift_28 : decode cX6_drift 28 = .ok (.iinc 2 1, 3) := by decide +kernel
theorem dX6_drift_31 : decode cX6_drift 31 = .ok (.goto (-16), 3) := by decide +kernel
theorem dX6_drift_34 : decode cX6_drift 34 = .ok (.aload_n 0, 1) := by decide +kernel
theorem dX6_drift_35 : decode cX6_drift 35 = .ok (.iconst 0, 1) := by decide +kernel
theorem dX6_drift_36 : decode cX6_drift 36 = .ok (.iconst 0, 1) := by decide +kernel
theorem dX6_drift_37 : decode cX6_drift 37 = .ok (.invokevirtual 81, 3) := by decide +kernel
theorem dX6_drift_40 : decode cX6_drift 40 = .ok (.ireturn, 1) := by decide +kernel
set_option maxRecDepth 20000 in
theorem ggX6_undo_X6_in : GoodIn wsX6_undo wsX6_in := goodIn_r _ [8] (by decide +kernel) (by decide +kernel)
set_option maxRecDepth 20000 in
theorem gX6_undo_X6_in : GoodIn wsX6_undo (va_wsS RX6 19 yX6_in wsX6_in) := goodIn_app (goodIn_of _ (by decide +kernel)) ggX6_undo_X6_in
set_option maxRecDepth 20000 in
theorem ggX6_undo_X6_copyRow : GoodIn wsX6_undo wsX6_copyRow := goodIn_r _ [12, 4, 13, 14, 15, 16, 17, 18] (by decide +kernel) (by decide +kernel)
set_option maxRecDepth 20000 in
theorem gX6_undo_X6_copyRow : GoodIn wsX6_undo (wsV RX6 115 RX6 yX6_copyRow wsX6_copyRow) := goodIn_app (goodIn_of _ (by decide +kernel)) ggX6_undo_X6_copyRow
theorem dX6_undo_0 : decode cX6_undo 0 = .ok (.iload_n 1, 1) := by decide +kernel
theorem dX6_undo_1 : decode cX6_undo 1 = .ok (.iconst 1, 1) := by decide +kernel
theorem dX6_undo_2 : decode cX6_undo 2 = .ok (.bipush 16, 2) := by decide +kernel
theorem dX6_undo_4 : decode cX6_undo 4 = .ok (.invokestatic 19, 3) := by decide +kernel
theorem dX6_undo_7 : decode cX6_undo 7 = .ok (.ifCond .ne 6, 3) := by decide +kernel
theorem dX6_undo_10 : decode cX6_undo 10 = .ok (.ldc 101, 2) := by decide +kernel
theorem dX6_undo_12 : decode cX6_undo 12 = .ok (.ireturn, 1) := by decide +kernel
theorem dX6_undo_13 : decode cX6_undo 13 = .ok (.iload_n 1, 1) := by decide +kernel
theorem dX6_undo_14 : decode cX6_undo 14 = .ok (.aload_n 0, 1) := by decide +kernel
theorem dX6_undo_15 : decode cX6_undo 15 = .ok (.getfield 98, 3) := by decide +kernel
theorem dX6_undo_18 : decode cX6_undo 18 = .ok (.if_icmp .le 6, 3) := by decide +kernel
theorem dX6_undo_21 : decode cX6_undo 21 = .ok (.ldc 124, 2) := by decide +kernel
theorem dX6_undo_23 : decode cX6_undo 23 = .ok (.ireturn, 1) := by decide +kernel
theorem dX6_undo_24 : decode cX6_undo 24 = .ok (.aload_n 0, 1) := by decide +kernel
theorem dX6_undo_25 : decode cX6_undo 25 = .ok (.getfield 7, 3) := by decide +kernel
theorem dX6_undo_28 : decode cX6_undo 28 = .ok (.bipush 83, 2) := by decide +kernel
theorem dX6_undo_30 : decode cX6_undo 30 = .ok (.iaload, 1) := by decide +kernel
theorem dX6_undo_31 : decode cX6_undo 31 = .ok (.istore_n 2, 1) := by decide +kernel
theorem dX6_undo_32 : decode cX6_undo 32 = .ok (.aload_n 0, 1) := by decide +kernel
theorem dX6_undo_33 : decode cX6_undo 33 = .ok (.dup, 1) := by decide +kernel
theorem dX6_undo_34 : decode cX6_undo 34 = .ok (.getfield 98, 3) := by decide +kernel
theorem dX6_undo_37 : decode cX6_undo 37 = .ok (.iload_n 1, 1) := by decide +kernel
theorem dX6_undo_38 : decode cX6_undo 38 = .ok (.isub, 1) := by decide +kernel
theorem dX6_undo_39 : decode cX6_undo 39 = .ok (.putfield 98, 3) := by decide +kernel
theorem dX6_undo_42 : decode cX6_undo 42 = .ok (.aload_n 0, 1) := by decide +kernel
theorem dX6_undo_43 : decode cX6_undo 43 = .ok (.bipush 84, 2) := by decide +kernel
theorem dX6_undo_45 : decode cX6_undo 45 = .ok (.aload_n 0, 1) := by decide +kernel
theorem dX6_undo_46 : decode cX6_undo 46 = .ok (.getfield 98, 3) := by decide +kernel
theorem dX6_undo_49 : decode cX6_undo 49 = .ok (.iconst 1, 1) := by decide +kernel
theorem dX6_undo_50 : decode cX6_undo 50 = .ok (.iadd, 1) := by decide +kernel
theorem dX6_undo_51 : decode cX6_undo 51 = .ok (.imul, 1) := by decide +kernel
theorem dX6_undo_52 : decode cX6_undo 52 = .ok (.iconst 0, 1) := by decide +kernel
theorem dX6_undo_53 : decode cX6_undo 53 = .ok (.invokevirtual 115, 3) := by decide +kernel
theorem dX6_undo_56 : decode cX6_undo 56 = .ok (.aload_n 0, 1) := by decide +kernel
theorem dX6_undo_57 : decode cX6_undo 57 = .ok (.getfield 7, 3) := by decide +kernel
theorem dX6_undo_60 : decode cX6_undo 60 = .ok (.bipush 83, 2) := by decide +kernel
theorem dX6_undo_62 : decode cX6_undo 62 = .ok (.iload_n 2, 1) := by decide +kernel
theorem dX6_undo_63 : decode cX6_undo 63 = .ok (.iastore, 1) := by decide +kernel
theorem dX6_undo_64 : decode cX6_undo 64 = .ok (.aload_n 0, 1) := by decide +kernel
theorem dX6_undo_65 : decode cX6_undo 65 = .ok (.getfield 98, 3) := by decide +kernel
theorem dX6_undo_68 : decode cX6_undo 68 = .ok (.ireturn, 1) := by decide +kernel
set_option maxRecDepth 20000 in
theorem ggX6_would_X6_isSet : GoodIn wsX6_would wsX6_isSet := goodIn_r _ [6, 7, 8, 9, 5, 10, 11, 12, 13, 14, 74, 75, 76, 77, 78, 79] (by decide +kernel) (by decide +kernel)
set_option maxRecDepth 20000 in
theorem gX6_would_X6_isSet : GoodIn wsX6_would (wsV RX6 141 RX6 yX6_isSet wsX6_isSet) := goodIn_app (goodIn_of _ (by decide +kernel)) ggX6_would_X6_isSet
set_option maxRecDepth 20000 in
theorem ggX6_would_X6_copyRow : GoodIn wsX6_would wsX6_copyRow := goodIn_r _ [18, 11, 74, 75, 76, 77, 78, 79] (by decide +kernel) (by decide +kernel)
set_option maxRecDepth 20000 in
theorem gX6_would_X6_copyRow : GoodIn wsX6_would (wsV RX6 115 RX6 yX6_copyRow wsX6_copyRow) := goodIn_app (goodIn_of _ (by decide +kernel)) ggX6_would_X6_copyRow
set_option maxRecDepth 20000 in
theorem ggX6_would_X6_tickIn : GoodIn wsX6_would wsX6_tickIn := goodIn_r _ [22, 11, 7, 8, 9, 5, 10, 23, 24, 25, 26, 27, 28, 29, 30, 31, 32, 33, 34, 35, 36, 37, 38, 39, 40, 41, 42, 43, 44, 45, 46, 47, 48, 49, 50, 51, 52, 53, 54, 55, 56, 57, 58, 59, 60, 61, 62, 63, 64, 65, 66, 67, 68, 69, 74, 75, 76, 77, 78, 79] (by decide +kernel) (by decide +kernel)
set_option maxRecDepth 20000 in
theorem gX6_would_X6_tickIn : GoodIn wsX6_would (wsV RX6 144 RX6 yX6_tickIn wsX6_tickIn) := goodIn_app (goodIn_of _ (by decide +kernel)) ggX6_would_X6_tickIn
set_option maxRecDepth 20000 in
theorem ggX6_would_X6_called : GoodIn wsX6_would wsX6_called := goodIn_r _ [73, 11, 74, 75, 76, 77, 78, 79] (by decide +kernel) (by decide +kernel)
set_option maxRecDepth 20000 in
theorem gX6_would_X6_called : GoodIn wsX6_would (wsV RX6 81 RX6 yX6_called wsX6_called) := goodIn_app (goodIn_of _ (by decide +kernel)) ggX6_would_X6_called
theorem dX6_would_0 : decode cX6_would 0 = .ok (.aload_n 0, 1) := by decide +kernel
theorem dX6_would_1 : decode cX6_would 1 = .ok (.iload_n 1, 1) := by decide +kernel
theorem dX6_would_2 : decode cX6_would 2 = .ok (.invokevirtual 141, 3) := by decide +kernel
theorem dX6_would_5 : decode cX6_would 5 = .ok (.ifCond .ne 6, 3) := by decide +kernel
theorem dX6_would_8 : decode cX6_would 8 = .ok (.ldc 102, 2) := by decide +kernel
theorem dX6_would_10 : decode cX6_would 10 = .ok (.ireturn, 1) := by decide +kernel
theorem dX6_would_11 : decode cX6_would 11 = .ok (.aload_n 0, 1) := by decide +kernel
theorem dX6_would_12 : decode cX6_would 12 = .ok (.iconst 0, 1) := by decide +kernel
theorem dX6_would_13 : decode cX6_would 13 = .ok (.sipush 1596, 3) := by decide +kernel
theorem dX6_would_16 : decode cX6_would 16 = .ok (.invokevirtual 115, 3) := by decide +kernel
theorem dX6_would_19 : decode cX6_would 19 = .ok (.aload_n 0, 1) := by decide +kernel
theorem dX6_would_20 : decode cX6_would 20 = .ok (.sipush 1596, 3) := by decide +kernel
theorem dX6_would_23 : decode cX6_would 23 = .ok (.iload_n 1, 1) := by decide +kernel
theorem dX6_would_24 : decode cX6_would 24 = .ok (.invokevirtual 144, 3) := by decide +kernel
theorem dX6_would_27 : decode cX6_would 27 = .ok (.aload_n 0, 1) := by decide +kernel
theorem dX6_would_28 : decode cX6_would 28 = .ok (.sipush 1596, 3) := by decide +kernel
theorem dX6_would_31 : decode cX6_would 31 = .ok (.iconst 0, 1) := by decide +kernel
theorem dX6_would_32 : decode cX6_would 32 = .ok (.invokevirtual 81, 3) := by decide +kernel
theorem dX6_would_35 : decode cX6_would 35 = .ok (.ireturn, 1) := by decide +kernel
set_option maxRecDepth 20000 in
theorem ggX6_write_X6_isSection : GoodIn wsX6_write wsX6_isSection := goodIn_r _ [11, 12, 13, 14, 10, 15, 16, 17, 18, 19, 20, 21] (by decide +kernel) (by decide +kernel)
set_option maxRecDepth 20000 in
theorem gX6_write_X6_isSection : GoodIn wsX6_write (wsV RX6 78 RX6 yX6_isSection wsX6_isSection) := goodIn_app (goodIn_of _ (by decide +kernel)) ggX6_write_X6_isSection
set_option maxRecDepth 20000 in
theorem ggX6_write_X6_in : GoodIn wsX6_write wsX6_in := goodIn_r _ [15] (by decide +kernel) (by decide +kernel)
set_option maxRecDepth 20000 in
theorem gX6_write_X6_in : GoodIn wsX6_write (va_wsS RX6 19 yX6_in wsX6_in) := goodIn_app (goodIn_of _ (by decide +kernel)) ggX6_write_X6_in
theorem dX6_write_0 : decode cX6_write 0 = .ok (.aload_n 0, 1) := by decide +kernel
theorem dX6_write_1 : decode cX6_write 1 = .ok (.iload_n 1, 1) := by decide +kernel
theorem dX6_write_2 : decode cX6_write 2 = .ok (.invokevirtual 78, 3) := by decide +kernel
theorem dX6_write_5 : decode cX6_write 5 = .ok (.ifCond .ne 6, 3) := by decide +kernel
theorem dX6_write_8 : decode cX6_write 8 = .ok (.ldc 102, 2) := by decide +kernel
theorem dX6_write_10 : decode cX6_write 10 = .ok (.ireturn, 1) := by decide +kernel
theorem dX6_write_11 : decode cX6_write 11 = .ok (.iload_n 2, 1) := by decide +kernel
theorem dX6_write_12 : decode cX6_write 12 = .ok (.iconst 0, 1) := by decide +kernel
theorem dX6_write_13 : decode cX6_write 13 = .ok (.iconst 3, 1) := by decide +kernel
theorem dX6_write_14 : decode cX6_write 14 = .ok (.invokestatic 19, 3) := by decide +kernel
theorem dX6_write_17 : decode cX6_write 17 = .ok (.ifCond .ne 6, 3) := by decide +kernel
theorem dX6_write_20 : decode cX6_write 20 = .ok (.ldc 101, 2) := by decide +kernel
theorem dX6_write_22 : decode cX6_write 22 = .ok (.ireturn, 1) := by decide +kernel
theorem dX6_write_23 : decode cX6_write 23 = .ok (.aload_n 0, 1) := by decide +kernel
theorem dX6_write_24 : decode cX6_write 24 = .ok (.getfield 74, 3) := by decide +kernel
theorem dX6_write_27 : decode cX6_write 27 = .ok (.bipush 20, 2) := by decide +kernel
theorem dX6_write_29 : decode cX6_write 29 = .ok (.if_icmp .ne 6, 3) := by decide +kernel
theorem dX6_write_32 : decode cX6_write 32 = .ok (.ldc 160, 2) := by decide +kernel
theorem dX6_write_34 : decode cX6_write 34 = .ok (.ireturn, 1) := by decide +kernel
theorem dX6_write_35 : decode cX6_write 35 = .ok (.aload_n 0, 1) := by decide +kernel
theorem dX6_write_36 : decode cX6_write 36 = .ok (.getfield 13, 3) := by decide +kernel
theorem dX6_write_39 : decode cX6_write 39 = .ok (.aload_n 0, 1) := by decide +kernel
theorem dX6_write_40 : decode cX6_write 40 = .ok (.getfield 74, 3) := by decide +kernel
theorem dX6_write_43 : decode cX6_write 43 = .ok (.iload_n 1, 1) := by decide +kernel
theorem dX6_write_44 : decode cX6_write 44 = .ok (.iastore, 1) := by decide +kernel
theorem dX6_write_45 : decode cX6_write 45 = .ok (.aload_n 0, 1) := by decide +kernel
theorem dX6_write_46 : decode cX6_write 46 = .ok (.getfield 16, 3) := by decide +kernel
theorem dX6_write_49 : decode cX6_write 49 = .ok (.aload_n 0, 1) := by decide +kernel
theorem dX6_write_50 : decode cX6_write 50 = .ok (.getfield 74, 3) := by decide +kernel
theorem dX6_write_53 : decode cX6_write 53 = .ok (.iload_n 2, 1) := by decide +kernel
theorem dX6_write_54 : decode cX6_write 54 = .ok (.iastore, 1) := by decide +kernel
theorem dX6_write_55 : decode cX6_write 55 = .ok (.aload_n 0, 1) := by decide +kernel
theorem dX6_write_56 : decode cX6_write 56 = .ok (.dup, 1) := by decide +kernel
theorem dX6_write_57 : decode cX6_write 57 = .ok (.getfield 74, 3) := by decide +kernel
theorem dX6_write_60 : decode cX6_write 60 = .ok (.iconst 1, 1) := by decide +kernel
theorem dX6_write_61 : decode cX6_write 61 = .ok (.iadd, 1) := by decide +kernel
theorem dX6_write_62 : decode cX6_write 62 = .ok (.putfield 74, 3) := by decide +kernel
theorem dX6_write_65 : decode cX6_write 65 = .ok (.aload_n 0, 1) := by decide +kernel
theorem dX6_write_66 : decode cX6_write 66 = .ok (.getfield 74, 3) := by decide +kernel
theorem dX6_write_69 : decode cX6_write 69 = .ok (.ireturn, 1) := by decide +kernel
theorem dX6_tear_0 : decode cX6_tear 0 = .ok (.aload_n 0, 1) := by decide +kernel
theorem dX6_tear_1 : decode cX6_tear 1 = .ok (.getfield 74, 3) := by decide +kernel
theorem dX6_tear_4 : decode cX6_tear 4 = .ok (.istore_n 1, 1) := by decide +kernel
theorem dX6_tear_5 : decode cX6_tear 5 = .ok (.aload_n 0, 1) := by decide +kernel
theorem dX6_tear_6 : decode cX6_tear 6 = .ok (.iconst 0, 1) := by decide +kernel
theorem dX6_tear_7 : decode cX6_tear 7 = .ok (.putfield 74, 3) := by decide +kernel
theorem dX6_tear_10 : decode cX6_tear 10 = .ok (.iload_n 1, 1) := by decide +kernel
theorem dX6_tear_11 : decode cX6_tear 11 = .ok (.ireturn, 1) := by decide +kernel
theorem dX6_seed_0 : decode cX6_seed 0 = .ok (.iload_n 1, 1) := by decide +kernel
theorem dX6_seed_1 : decode cX6_seed 1 = .ok (.ifCond .ge 6, 3) := by decide +kernel
theorem dX6_seed_4 : decode cX6_seed 4 = .ok (.ldc 101, 2) := by decide +kernel
theorem dX6_seed_6 : decode cX6_seed 6 = .ok (.ireturn, 1) := by decide +kernel
theorem dX6_seed_7 : decode cX6_seed 7 = .ok (.aload_n 0, 1) := by decide +kernel
theorem dX6_seed_8 : decode cX6_seed 8 = .ok (.getfield 7, 3) := by decide +kernel
theorem dX6_seed_11 : decode cX6_seed 11 = .ok (.bipush 83, 2) := by decide +kernel
theorem dX6_seed_13 : decode cX6_seed 13 = .ok (.iaload, 1) := by decide +kernel
theorem dX6_seed_14 : decode cX6_seed 14 = .ok (.istore_n 2, 1) := by decide +kernel
theorem dX6_seed_15 : decode cX6_seed 15 = .ok (.aload_n 0, 1) := by decide +kernel
theorem dX6_seed_16 : decode cX6_seed 16 = .ok (.getfield 7, 3) := by decide +kernel
theorem dX6_seed_19 : decode cX6_seed 19 = .ok (.bipush 83, 2) := by decide +kernel
theorem dX6_seed_21 : decode cX6_seed 21 = .ok (.iload_n 1, 1) := by decide +kernel
theorem dX6_seed_22 : decode cX6_seed 22 = .ok (.iastore, 1) := by decide +kernel
theorem dX6_seed_23 : decode cX6_seed 23 = .ok (.iload_n 2, 1) := by decide +kernel
theorem dX6_seed_24 : decode cX6_seed 24 = .ok (.ireturn, 1) := by decide +kernel
set_option maxRecDepth 20000 in
theorem ggX6_keep_X6_in : GoodIn wsX6_keep wsX6_in := goodIn_r _ [7] (by decide +kernel) (by decide +kernel)
set_option maxRecDepth 20000 in
theorem gX6_keep_X6_in : GoodIn wsX6_keep (va_wsS RX6 19 yX6_in wsX6_in) := goodIn_app (goodIn_of _ (by decide +kernel)) ggX6_keep_X6_in
set_option maxRecDepth 20000 in
theorem ggX6_keep_X6_copyRow : GoodIn wsX6_keep wsX6_copyRow := goodIn_r _ [11, 12, 13, 14, 15, 16, 17, 18] (by decide +kernel) (by decide +kernel)
set_option maxRecDepth 20000 in
theorem gX6_keep_X6_copyRow : GoodIn wsX6_keep (wsV RX6 115 RX6 yX6_copyRow wsX6_copyRow) := goodIn_app (goodIn_of _ (by decide +kernel)) ggX6_keep_X6_copyRow
theorem dX6_keep_0 : decode cX6_keep 0 = .ok (.iload_n 1, 1) := by decide +kernel
theorem dX6_keep_1 : decode cX6_keep 1 = .ok (.iconst 0, 1) := by decide +kernel
theorem dX6_keep_2 : decode cX6_keep 2 = .ok (.iconst 1, 1) := by decide +kernel
theorem dX6_keep_3 : decode cX6_keep 3 = .ok (.invokestatic 19, 3) := by decide +kernel
theorem dX6_keep_6 : decode cX6_keep 6 = .ok (.ifCond .ne 6, 3) := by decide +kernel
theorem dX6_keep_9 : decode cX6_keep 9 = .ok (.ldc 102, 2) := by decide +kernel
theorem dX6_keep_11 : decode cX6_keep 11 = .ok (.ireturn, 1) := by decide +kernel
theorem dX6_keep_12 : decode cX6_keep 12 = .ok (.aload_n 0, 1) := by decide +kernel
theorem dX6_keep_13 : decode cX6_keep 13 = .ok (.iconst 0, 1) := by decide +kernel
theorem dX6_keep_14 : decode cX6_keep 14 = .ok (.sipush 1428, 3) := by decide +kernel
theorem dX6_keep_17 : decode cX6_keep 17 = .ok (.bipush 84, 2) := by decide +kernel
theorem dX6_keep_19 : decode cX6_keep 19 = .ok (.iload_n 1, 1) := by decide +kernel
theorem dX6_keep_20 : decode cX6_keep 20 = .ok (.imul, 1) := by decide +kernel
theorem dX6_keep_21 : decode cX6_keep 21 = .ok (.iadd, 1) := by decide +kernel
theorem dX6_keep_22 : decode cX6_keep 22 = .ok (.invokevirtual 115, 3) := by decide +kernel
theorem dX6_keep_25 : decode cX6_keep 25 = .ok (.aload_n 0, 1) := by decide +kernel
theorem dX6_keep_26 : decode cX6_keep 26 = .ok (.dup, 1) := by decide +kernel
theorem dX6_keep_27 : decode cX6_keep 27 = .ok (.getfield 161, 3) := by decide +kernel
theorem dX6_keep_30 : decode cX6_keep 30 = .ok (.iconst 1, 1) := by decide +kernel
theorem dX6_keep_31 : decode cX6_keep 31 = .ok (.iload_n 1, 1) := by decide +kernel
theorem dX6_keep_32 : decode cX6_keep 32 = .ok (.ishl, 1) := by decide +kernel
theorem dX6_keep_33 : decode cX6_keep 33 = .ok (.ior, 1) := by decide +kernel
theorem dX6_keep_34 : decode cX6_keep 34 = .ok (.putfield 161, 3) := by decide +kernel
theorem dX6_keep_37 : decode cX6_keep 37 = .ok (.aload_n 0, 1) := by decide +kernel
theorem dX6_keep_38 : decode cX6_keep 38 = .ok (.iconst 0, 1) := by decide +kernel
theorem dX6_keep_39 : decode cX6_keep 39 = .ok (.putfield 98, 3) := by decide +kernel
theorem dX6_keep_42 : decode cX6_keep 42 = .ok (.iconst 1, 1) := by decide +kernel
theorem dX6_keep_43 : decode cX6_keep 43 = .ok (.ireturn, 1) := by decide +kernel
set_option maxRecDepth 20000 in
theorem ggX6_goBack_X6_in : GoodIn wsX6_goBack wsX6_in := goodIn_r _ [8] (by decide +kernel) (by decide +kernel)
set_option maxRecDepth 20000 in
theorem gX6_goBack_X6_in : GoodIn wsX6_goBack (va_wsS RX6 19 yX6_in wsX6_in) := goodIn_app (goodIn_of _ (by decide +kernel)) ggX6_goBack_X6_in
set_option maxRecDepth 20000 in
theorem ggX6_goBack_X6_has : GoodIn wsX6_goBack wsX6_has := goodIn_r _ [11] (by decide +kernel) (by decide +kernel)
set_option maxRecDepth 20000 in
theorem gX6_goBack_X6_has : GoodIn wsX6_goBack (va_wsS RX6 51 yX6_has wsX6_has) := goodIn_app (goodIn_of _ (by decide +kernel)) ggX6_goBack_X6_has
set_option maxRecDepth 20000 in
theorem ggX6_goBack_X6_copyRow : GoodIn wsX6_goBack wsX6_copyRow := goodIn_r _ [15, 16, 17, 18, 19, 20, 21, 22] (by decide +kernel) (by decide +kernel)
set_option maxRecDepth 20000 in
theorem gX6_goBack_X6_copyRow : GoodIn wsX6_goBack (wsV RX6 115 RX6 yX6_copyRow wsX6_copyRow) := goodIn_app (goodIn_of _ (by decide +kernel)) ggX6_goBack_X6_copyRow
theorem dX6_goBack_0 : decode cX6_goBack 0 = .ok (.iload_n 1, 1) := by decide +kernel
theorem dX6_goBack_1 : decode cX6_goBack 1 = .ok (.iconst 0, 1) := by decide +kernel
theorem dX6_goBack_2 : decode cX6_goBack 2 = .ok (.iconst 1, 1) := by decide +kernel
theorem dX6_goBack_3 : decode cX6_goBack 3 = .ok (.invokestatic 19, 3) := by decide +kernel
theorem dX6_goBack_6 : decode cX6_goBack 6 = .ok (.ifCond .ne 6, 3) := by decide +kernel
theorem dX6_goBack_9 : decode cX6_goBack 9 = .ok (.ldc 102, 2) := by decide +kernel
theorem dX6_goBack_11 : decode cX6_goBack 11 = .ok (.ireturn, 1) := by decide +kernel
theorem dX6_goBack_12 : decode cX6_goBack 12 = .ok (.aload_n 0, 1) := by decide +kernel
theorem dX6_goBack_13 : decode cX6_goBack 13 = .ok (.getfield 161, 3) := by decide +kernel
theorem dX6_goBack_16 : decode cX6_goBack 16 = .ok (.iload_n 1, 1) := by decide +kernel
theorem dX6_goBack_17 : decode cX6_goBack 17 = .ok (.invokestatic 51, 3) := by decide +kernel
theorem dX6_goBack_20 : decode cX6_goBack 20 = .ok (.ifCond .ne 6, 3) := by decide +kernel
theorem dX6_goBack_23 : decode cX6_goBack 23 = .ok (.ldc 124, 2) := by decide +kernel
theorem dX6_goBack_25 : decode cX6_goBack 25 = .ok (.ireturn, 1) := by decide +kernel
theorem dX6_goBack_26 : decode cX6_goBack 26 = .ok (.aload_n 0, 1) := by decide +kernel
theorem dX6_goBack_27 : decode cX6_goBack 27 = .ok (.sipush 1428, 3) := by decide +kernel
theorem dX6_goBack_30 : decode cX6_goBack 30 = .ok (.bipush 84, 2) := by decide +kernel
theorem dX6_goBack_32 : decode cX6_goBack 32 = .ok (.iload_n 1, 1) := by decide +kernel
theorem dX6_goBack_33 : decode cX6_goBack 33 = .ok (.imul, 1) := by decide +kernel
theorem dX6_goBack_34 : decode cX6_goBack 34 = .ok (.iadd, 1) := by decide +kernel
theorem dX6_goBack_35 : decode cX6_goBack 35 = .ok (.iconst 0, 1) := by decide +kernel
theorem dX6_goBack_36 : decode cX6_goBack 36 = .ok (.invokevirtual 115, 3) := by decide +kernel
theorem dX6_goBack_39 : decode cX6_goBack 39 = .ok (.aload_n 0, 1) := by decide +kernel
theorem dX6_goBack_40 : decode cX6_goBack 40 = .ok (.iconst 0, 1) := by decide +kernel
theorem dX6_goBack_41 : decode cX6_goBack 41 = .ok (.putfield 98, 3) := by decide +kernel
theorem dX6_goBack_44 : decode cX6_goBack 44 = .ok (.iconst 1, 1) := by decide +kernel
theorem dX6_goBack_45 : decode cX6_goBack 45 = .ok (.ireturn, 1) := by decide +kernel
theorem dJ9_max_7cf53_0 : decode cJ9_max_7cf53 0 = .ok (.iload_n 0, 1) := by decide +kernel
theorem dJ9_max_7cf53_1 : decode cJ9_max_7cf53 1 = .ok (.iload_n 1, 1) := by decide +kernel
theorem dJ9_max_7cf53_2 : decode cJ9_max_7cf53 2 = .ok (.if_icmp .lt 7, 3) := by decide +kernel
theorem dJ9_max_7cf53_5 : decode cJ9_max_7cf53 5 = .ok (.iload_n 0, 1) := by decide +kernel
theorem dJ9_max_7cf53_6 : decode cJ9_max_7cf53 6 = .ok (.goto 4, 3) := by decide +kernel
theorem dJ9_max_7cf53_9 : decode cJ9_max_7cf53 9 = .ok (.iload_n 1, 1) := by decide +kernel
theorem dJ9_max_7cf53_10 : decode cJ9_max_7cf53 10 = .ok (.ireturn, 1) := by decide +kernel
theorem dJ7_fill_53178_0 : decode cJ7_fill_53178 0 = .ok (.iconst 0, 1) := by decide +kernel
theorem dJ7_fill_53178_1 : decode cJ7_fill_53178 1 = .ok (.istore_n 2, 1) := by decide +kernel
theorem dJ7_fill_53178_2 : decode cJ7_fill_53178 2 = .ok (.aload_n 0, 1) := by decide +kernel
theorem dJ7_fill_53178_3 : decode cJ7_fill_53178 3 = .ok (.arraylength, 1) := by decide +kernel
theorem dJ7_fill_53178_4 : decode cJ7_fill_53178 4 = .ok (.istore_n 3, 1) := by decide +kernel
theorem dJ7_fill_53178_5 : decode cJ7_fill_53178 5 = .ok (.iload_n 2, 1) := by decide +kernel
theorem dJ7_fill_53178_6 : decode cJ7_fill_53178 6 = .ok (.iload_n 3, 1) := by decide +kernel
theorem dJ7_fill_53178_7 : decode cJ7_fill_53178 7 = .ok (.if_icmp .ge 13, 3) := by decide +kernel
theorem dJ7_fill_53178_10 : decode cJ7_fill_53178 10 = .ok (.aload_n 0, 1) := by decide +kernel
theorem dJ7_fill_53178_11 : decode cJ7_fill_53178 11 = .ok (.iload_n 2, 1) := by decide +kernel
theorem dJ7_fill_53178_12 : decode cJ7_fill_53178 12 = .ok (.iload_n 1, 1) := by decide +kernel
theorem dJ7_fill_53178_13 : decode cJ7_fill_53178 13 = .ok (.iastore, 1) := by decide +kernel
theorem dJ7_fill_53178_14 : decode cJ7_fill_53178 14 = .ok (.iinc 2 1, 3) := by decide +kernel
theorem dJ7_fill_53178_17 : decode cJ7_fill_53178 17 = .ok (.goto (-12), 3) := by decide +kernel
theorem dJ7_fill_53178_20 : decode cJ7_fill_53178 20 = .ok (.return_, 1) := by decide +kernel
end
section
/-! my words: a state is a table of rows, f K i; a world is its cells, with anything (X) behind; contracts of readers and of writers -/
def up2 (f : Nat → Nat → Int32) (K i : Nat) (x : Int32) : Nat → Nat → Int32 := fun k => bif Nat.beq k K then upd (f K) i x else f k
abbrev remI (x y : Int32) : Int32 := x - x / y * y
abbrev remL (x y : Int64) : Int64 := x - x / y * y
abbrev ix (x : Int32) : Nat := x.toNatClampNeg
abbrev TY (cI cZ cQ : ClassId) : List (ClassId × FieldType) := [(cI, .int), (cZ, .boolean), (cQ, .array .int)]
/-- the cells of a Line -/
abbrev LW (cI : ClassId) (h : Nat) (a : Nat → Nat) (f : Nat → Nat → Int32) : va_W :=
  [(h, .inr (3, [.int (f 0 0), .int (f 1 0), .int (f 2 0), .ref (a 3), .ref (a 4), .ref (a 5), .ref (a 6), .ref (a 7), .ref (a 8), .ref (a 9), .ref (a 10), .ref (a 11), .ref (a 12), .ref (a 13), .ref (a 14)])),
   (a 3, .inl (cI, 7, .inl (f 3))), (a 4, .inl (cI, 7, .inl (f 4))), (a 5, .inl (cI, 7, .inl (f 5))), (a 6, .inl (cI, 7, .inl (f 6))), (a 7, .inl (cI, 7, .inl (f 7))), (a 8, .inl (cI, 7, .inl (f 8))), (a 9, .inl (cI, 7, .inl (f 9))), (a 10, .inl (cI, 7, .inl (f 10))),
   (a 11, .inl (cI, 6, .inl (f 11))), (a 12, .inl (cI, 6, .inl (f 12))), (a 13, .inl (cI, 6, .inl (f 13))), (a 14, .inl (cI, 6, .inl (f 14)))]
/-- the cells of the reference -/
abbrev MW (cI : ClassId) (h : Nat) (a : Nat → Nat) (f : Nat → Nat → Int32) : va_W :=
  [(h, .inr (6, [.ref (a 0), .int (f 1 0), .int (f 2 0), .ref (a 3), .ref (a 4), .int (f 5 0)])), (a 0, .inl (cI, 1680, .inl (f 0))), (a 3, .inl (cI, 20, .inl (f 3))), (a 4, .inl (cI, 20, .inl (f 4)))]
def PR (av : List Value) (D : va_G) (ty : List (ClassId × FieldType)) (ws : va_W) : Array Value → State → Prop := va_Pc av (fun U => va_P D vwCl ws U.heap ∧ va_K D vwCl ty U)
def PW (av : List Value) (sz : Nat) (D : va_G) (ty : List (ClassId × FieldType)) (ws : va_W) : Array Value → State → Prop := va_Pc av (fun U => U.heap.size = sz ∧ va_P D vwCl ws U.heap ∧ va_K D vwCl ty U ∧ va_D (fun _ => True) ws)
def QR (ρ : Int32) : Array Value → State → Outcome → State → Prop := vp_Si (fun r => r = ρ)
def QI (ρ : Int32) (D : va_G) (ty : List (ClassId × FieldType)) (ws : va_W) (A : Nat → Prop) : Array Value → State → Outcome → State → Prop := va_Qi (fun r (_ : Unit) => r = ρ) (fun _ t => va_P D vwCl ws t.heap ∧ va_K D vwCl ty t ∧ va_D A ws) A
def QV (D : va_G) (ty : List (ClassId × FieldType)) (ws : va_W) (A : Nat → Prop) : Array Value → State → Outcome → State → Prop := va_Qv (fun (_ : Unit) => True) (fun _ t => va_P D vwCl ws t.heap ∧ va_K D vwCl ty t ∧ va_D A ws) A
theorem PR.blind {av : List Value} {D : va_G} {ty : List (ClassId × FieldType)} {ws : va_W} : FrameBlind (PR av D ty ws) := fun a U g mk q => by
  obtain ⟨q0, qP, qK⟩ := q
  exact ⟨q0, qP, va_K.moved (u := U) (U := U.calling g mk a) (Vm.Alike.refl U.vm) qK⟩
theorem PW.blind {av : List Value} {sz : Nat} {D : va_G} {ty : List (ClassId × FieldType)} {ws : va_W} : FrameBlind (PW av sz D ty ws) := fun a U g mk q => by
  obtain ⟨q0, q1, qP, qK, qD⟩ := q
  exact ⟨q0, q1, qP, va_K.moved (u := U) (U := U.calling g mk a) (Vm.Alike.refl U.vm) qK, qD⟩
theorem fr_in {A0 : Nat → Prop} {H0 H : Heap} {locs : List Loc} {wd : va_W} (hD : va_D A0 wd) (hS : va_S A0 H0 H locs) (hA : ∀ q, H0.size ≤ q → A0 q) : ∀ q, va_A wd H.size q → A0 q := by
  intro q h
  rcases h with ⟨k, e, hk⟩ | h
  · exact hD.2 k _ hk
  · exact hA q (Nat.le_trans hS.1 h)
section KB
variable {p : Program} {l : Launch} {e : Env} {R : Room} {s : State} {m : MethodId} {args : Array Value} {below : List Frame} {meth : Method} {c : Code} {H : Heap} {locs : List Loc} {cells slots : Nat} {Q : State → Prop}
variable {pc : Nat} {ls : Array Slot} {rest st0 : List Value} {Ts ws ws' : List Cond} {cc bytes : ByteArray} {nL maxL index n : Nat} {own C : String} {y : MethodName} {ret : Option FieldType} {rm : Room} {D : va_G} {ty : List (ClassId × FieldType)} {wd wd' : va_W} {b : Nat} {As : List Value} {A0 A : Nat → Prop} {H0 : Heap} {lv : List (Nat × Value)} {ρ v : Int32} {ci : Nat} {fs : List Value} {T : u_T} {N : Nat}
/-- a call of a reader -/
theorem k_rd (S : CallFix p m c cc nL s args Ts own) (hM : Met l y ws rm (PR (.ref b :: As) D ty wd) (QR ρ) 0 0 (fun _ => False)) (hT : GoodIn Ts (wsV own index C y ws)) (hw : ws = Cond.code y bytes maxL ret :: ws') (hrm : rm.cells = 0 ∧ rm.slots = 0)
    (hd : y.cls = C ∧ y.cls ≠ "java/lang/invoke/MethodHandle" ∧ y.cls ≠ "java/lang/invoke/VarHandle" ∧ (parseMethodDescriptor y.desc).map (fun d => d.parameters.length) = some n) (hR : rm.frames + 1 ≤ R.frames ∧ 8 + (maxL + 11) + rm.locals ≤ R.locals)
    (hK : va_K D vwCl ty s) (hP : va_P D vwCl wd H) (q0 : Nat) (he : wd[q0]? = some (b, .inr (ci, fs))) (hc : vwCl[ci]? = some (C, T, N)) (hn : As.length = n) (hl : lv_has ls nL lv) (hst : st0 = As.reverse ++ .ref b :: rest) (hW : (rest.map fun v => v.category).sum ≤ 8)
    (hdg : decode cc pc = .ok (.invokevirtual index, 3)) (hf : cells ≤ R.cells ∧ slots ≤ R.slots)
    (kk : W p l e R s m args below meth c H locs cells slots Q (F0 m (pc + 3) ls (.int ρ :: rest))) : W p l e R s m args below meth c H locs cells slots Q (F0 m pc ls st0) := by
  refine vp_callSi (W.runV S hM (cwV n S.2.2.2.2 hT hw hrm.1 hrm.2 hd hR) ⟨PR.blind, va_recv hK hP hc he, fun U hU hW => ⟨rfl, by rw [hU]; exact hP, va_K.moved hW.alike hK⟩⟩ rfl hn hl.1 hst (lv_room hW) hdg hf) (fun r hr => ?_)
  subst hr
  exact kk
/-- a call of a static reader -/
theorem k_rs (S : CallFix p m c cc nL s args Ts own) (hM : Met l y ws rm (PR As D ty wd) (QR ρ) 0 0 (fun _ => False)) (hT : GoodIn Ts (va_wsS own index y ws)) (hw : ws = Cond.code y bytes maxL ret :: ws') (hrm : rm.cells = 0 ∧ rm.slots = 0)
    (hd : y.cls ≠ "java/lang/invoke/MethodHandle" ∧ y.cls ≠ "java/lang/invoke/VarHandle" ∧ (parseMethodDescriptor y.desc).map (fun d => d.parameters.length) = some n) (hR : rm.frames + 1 ≤ R.frames ∧ 8 + (maxL + 11) + rm.locals ≤ R.locals)
    (hK : va_K D vwCl ty s) (hP : va_P D vwCl wd H) (hn : As.length = n) (hl : lv_has ls nL lv) (hst : st0 = As.reverse ++ rest) (hW : (rest.map fun v => v.category).sum ≤ 8)
    (hdg : decode cc pc = .ok (.invokestatic index, 3)) (hf : cells ≤ R.cells ∧ slots ≤ R.slots)
    (kk : W p l e R s m args below meth c H locs cells slots Q (F0 m (pc + 3) ls (.int ρ :: rest))) : W p l e R s m args below meth c H locs cells slots Q (F0 m pc ls st0) := by
  refine vp_callSi (W.runS S hM (va_cwS n S.2.2.2.2 hT hw hrm.1 hrm.2 hd hR) ⟨PR.blind, fun U hU hW => ⟨rfl, by rw [hU]; exact hP, va_K.moved hW.alike hK⟩⟩ rfl hn hl.1 hst (lv_room hW) hdg hf) (fun r hr => ?_)
  subst hr
  exact kk
/-- a call of a writer that answers a number -/
theorem k_wi (S : CallFix p m c cc nL s args Ts own) (hM : Met l y ws rm (PW (.ref b :: As) H.size D ty wd) (QI ρ D ty wd' (va_A wd H.size)) 0 0 (va_A wd H.size)) (hT : GoodIn Ts (wsV own index C y ws)) (hw : ws = Cond.code y bytes maxL ret :: ws') (hrm : rm.cells = 0 ∧ rm.slots = 0)
    (hd : y.cls = C ∧ y.cls ≠ "java/lang/invoke/MethodHandle" ∧ y.cls ≠ "java/lang/invoke/VarHandle" ∧ (parseMethodDescriptor y.desc).map (fun d => d.parameters.length) = some n) (hR : rm.frames + 1 ≤ R.frames ∧ 8 + (maxL + 11) + rm.locals ≤ R.locals)
    (hK : va_K D vwCl ty s) (hP : va_P D vwCl wd H) (hD : va_D A0 wd) (hS : va_S A0 H0 H locs) (hA : ∀ q, H0.size ≤ q → A0 q) (q0 : Nat) (he : wd[q0]? = some (b, .inr (ci, fs))) (hc : vwCl[ci]? = some (C, T, N)) (hn : As.length = n) (hl : lv_has ls nL lv) (hst : st0 = As.reverse ++ .ref b :: rest) (hW : (rest.map fun v => v.category).sum ≤ 8)
    (hdg : decode cc pc = .ok (.invokevirtual index, 3)) (hf : cells ≤ R.cells ∧ slots ≤ R.slots)
    (kk : ∀ (H1 : Heap) (locs1 : List Loc), va_P D vwCl wd' H1 → va_D A0 wd' → va_S A0 H0 H1 locs1 → W p l e R s m args below meth c H1 locs1 cells slots Q (F0 m (pc + 3) ls (.int ρ :: rest))) : W p l e R s m args below meth c H locs cells slots Q (F0 m pc ls st0) := by
  have hF := fr_in hD hS hA
  refine va_calli (va_runV S hM (cwV n S.2.2.2.2 hT hw hrm.1 hrm.2 hd hR) ⟨PW.blind, va_recv hK hP hc he, fun U hU hW => ⟨rfl, by rw [hU], by rw [hU]; exact hP, va_K.moved hW.alike hK, hD.weaken (fun _ _ _ _ => trivial)⟩⟩ rfl hn hl.1 hst (lv_room hW) hdg hf) hS (fun q _ h => hF q h) hF (fun r u t H1 locs1 ht hvm hr hB hz1 hk1 hS1 => ?_)
  obtain ⟨hP1, hK1, hD1⟩ := hB
  rw [ht] at hP1
  subst hr
  exact kk H1 locs1 hP1 (hD1.weaken (fun _ q _ h => hF q.1 h)) hS1
/-- a call of a writer that answers nothing -/
theorem k_wv (S : CallFix p m c cc nL s args Ts own) (hM : Met l y ws rm (PW (.ref b :: As) H.size D ty wd) (QV D ty wd' (va_A wd H.size)) 0 0 (va_A wd H.size)) (hT : GoodIn Ts (wsV own index C y ws)) (hw : ws = Cond.code y bytes maxL ret :: ws') (hrm : rm.cells = 0 ∧ rm.slots = 0)
    (hd : y.cls = C ∧ y.cls ≠ "java/lang/invoke/MethodHandle" ∧ y.cls ≠ "java/lang/invoke/VarHandle" ∧ (parseMethodDescriptor y.desc).map (fun d => d.parameters.length) = some n) (hR : rm.frames + 1 ≤ R.frames ∧ 8 + (maxL + 11) + rm.locals ≤ R.locals)
    (hK : va_K D vwCl ty s) (hP : va_P D vwCl wd H) (hD : va_D A0 wd) (hS : va_S A0 H0 H locs) (hA : ∀ q, H0.size ≤ q → A0 q) (q0 : Nat) (he : wd[q0]? = some (b, .inr (ci, fs))) (hc : vwCl[ci]? = some (C, T, N)) (hn : As.length = n) (hl : lv_has ls nL lv) (hst : st0 = As.reverse ++ .ref b :: rest) (hW : (rest.map fun v => v.category).sum ≤ 8)
    (hdg : decode cc pc = .ok (.invokevirtual index, 3)) (hf : cells ≤ R.cells ∧ slots ≤ R.slots)
    (kk : ∀ (H1 : Heap) (locs1 : List Loc), va_P D vwCl wd' H1 → va_D A0 wd' → va_S A0 H0 H1 locs1 → W p l e R s m args below meth c H1 locs1 cells slots Q (F0 m (pc + 3) ls rest)) : W p l e R s m args below meth c H locs cells slots Q (F0 m pc ls st0) := by
  have hF := fr_in hD hS hA
  refine va_callv (va_runV S hM (cwV n S.2.2.2.2 hT hw hrm.1 hrm.2 hd hR) ⟨PW.blind, va_recv hK hP hc he, fun U hU hW => ⟨rfl, by rw [hU], by rw [hU]; exact hP, va_K.moved hW.alike hK, hD.weaken (fun _ _ _ _ => trivial)⟩⟩ rfl hn hl.1 hst (lv_room hW) hdg hf) hS (fun q _ h => hF q h) hF (fun u t H1 locs1 ht hvm hr hB hz1 hk1 hS1 => ?_)
  obtain ⟨hP1, hK1, hD1⟩ := hB
  rw [ht] at hP1
  exact kk H1 locs1 hP1 (hD1.weaken (fun _ q _ h => hF q.1 h)) hS1
/-- static writers -/
theorem k_si (S : CallFix p m c cc nL s args Ts own) (hM : Met l y ws rm (PW As H.size D ty wd) (QI ρ D ty wd' (va_A wd H.size)) 0 0 (va_A wd H.size)) (hT : GoodIn Ts (va_wsS own index y ws)) (hw : ws = Cond.code y bytes maxL ret :: ws') (hrm : rm.cells = 0 ∧ rm.slots = 0)
    (hd : y.cls ≠ "java/lang/invoke/MethodHandle" ∧ y.cls ≠ "java/lang/invoke/VarHandle" ∧ (parseMethodDescriptor y.desc).map (fun d => d.parameters.length) = some n) (hR : rm.frames + 1 ≤ R.frames ∧ 8 + (maxL + 11) + rm.locals ≤ R.locals)
    (hK : va_K D vwCl ty s) (hP : va_P D vwCl wd H) (hD : va_D A0 wd) (hS : va_S A0 H0 H locs) (hA : ∀ q, H0.size ≤ q → A0 q) (hn : As.length = n) (hl : lv_has ls nL lv) (hst : st0 = As.reverse ++ rest) (hW : (rest.map fun v => v.category).sum ≤ 8)
    (hdg : decode cc pc = .ok (.invokestatic index, 3)) (hf : cells ≤ R.cells ∧ slots ≤ R.slots)
    (kk : ∀ (H1 : Heap) (locs1 : List Loc), va_P D vwCl wd' H1 → va_D A0 wd' → va_S A0 H0 H1 locs1 → W p l e R s m args below meth c H1 locs1 cells slots Q (F0 m (pc + 3) ls (.int ρ :: rest))) : W p l e R s m args below meth c H locs cells slots Q (F0 m pc ls st0) := by
  have hF := fr_in hD hS hA
  refine va_calli (va_runS S hM (va_cwS n S.2.2.2.2 hT hw hrm.1 hrm.2 hd hR) ⟨PW.blind, fun U hU hW => ⟨rfl, by rw [hU], by rw [hU]; exact hP, va_K.moved hW.alike hK, hD.weaken (fun _ _ _ _ => trivial)⟩⟩ rfl hn hl.1 hst (lv_room hW) hdg hf) hS (fun q _ h => hF q h) hF (fun r u t H1 locs1 ht hvm hr hB hz1 hk1 hS1 => ?_)
  obtain ⟨hP1, hK1, hD1⟩ := hB
  rw [ht] at hP1
  subst hr
  exact kk H1 locs1 hP1 (hD1.weaken (fun _ q _ h => hF q.1 h)) hS1
theorem k_sv (S : CallFix p m c cc nL s args Ts own) (hM : Met l y ws rm (PW As H.size D ty wd) (QV D ty wd' (va_A wd H.size)) 0 0 (va_A wd H.size)) (hT : GoodIn Ts (va_wsS own index y ws)) (hw : ws = Cond.code y bytes maxL ret :: ws') (hrm : rm.cells = 0 ∧ rm.slots = 0)
    (hd : y.cls ≠ "java/lang/invoke/MethodHandle" ∧ y.cls ≠ "java/lang/invoke/VarHandle" ∧ (parseMethodDescriptor y.desc).map (fun d => d.parameters.length) = some n) (hR : rm.frames + 1 ≤ R.frames ∧ 8 + (maxL + 11) + rm.locals ≤ R.locals)
    (hK : va_K D vwCl ty s) (hP : va_P D vwCl wd H) (hD : va_D A0 wd) (hS : va_S A0 H0 H locs) (hA : ∀ q, H0.size ≤ q → A0 q) (hn : As.length = n) (hl : lv_has ls nL lv) (hst : st0 = As.reverse ++ rest) (hW : (rest.map fun v => v.category).sum ≤ 8)
    (hdg : decode cc pc = .ok (.invokestatic index, 3)) (hf : cells ≤ R.cells ∧ slots ≤ R.slots)
    (kk : ∀ (H1 : Heap) (locs1 : List Loc), va_P D vwCl wd' H1 → va_D A0 wd' → va_S A0 H0 H1 locs1 → W p l e R s m args below meth c H1 locs1 cells slots Q (F0 m (pc + 3) ls rest)) : W p l e R s m args below meth c H locs cells slots Q (F0 m pc ls st0) := by
  have hF := fr_in hD hS hA
  refine va_callv (va_runS S hM (va_cwS n S.2.2.2.2 hT hw hrm.1 hrm.2 hd hR) ⟨PW.blind, fun U hU hW => ⟨rfl, by rw [hU], by rw [hU]; exact hP, va_K.moved hW.alike hK, hD.weaken (fun _ _ _ _ => trivial)⟩⟩ rfl hn hl.1 hst (lv_room hW) hdg hf) hS (fun q _ h => hF q h) hF (fun u t H1 locs1 ht hvm hr hB hz1 hk1 hS1 => ?_)
  obtain ⟨hP1, hK1, hD1⟩ := hB
  rw [ht] at hP1
  exact kk H1 locs1 hP1 (hD1.weaken (fun _ q _ h => hF q.1 h)) hS1
/-- ends -/
theorem e_rd (hx : p.tables.exec = Jvm.exec) (hb : c.code = cc) (hr : meth.sig.returnType = some .int) (hlk : meth.locks = false) (hdg : decode cc pc = .ok (.ireturn, 1)) (hv : v = ρ) : W p l e R s m args below meth c s.heap [] 0 0 (MQ below (QR ρ) args s 0 0 (fun _ => False)) (F0 m pc ls [.int v]) :=
  W.iret hx hb hr (fun t ht _ => ⟨v, rfl, hv, ht⟩) (fun q hq => by cases hq) hdg hlk
theorem e_rz (hx : p.tables.exec = Jvm.exec) (hb : c.code = cc) (hr : meth.sig.returnType = some .boolean) (hlk : meth.locks = false) (hdg : decode cc pc = .ok (.ireturn, 1)) (hn : narrow .boolean (.int v) = .int v) (hv : v = ρ) : W p l e R s m args below meth c s.heap [] 0 0 (MQ below (QR ρ) args s 0 0 (fun _ => False)) (F0 m pc ls [.int v]) :=
  W.zret hx hb hr hn (fun t ht _ => ⟨v, rfl, hv, ht⟩) (fun q hq => by cases hq) hdg hlk
theorem e_wi (hx : p.tables.exec = Jvm.exec) (hb : c.code = cc) (hr : meth.sig.returnType = some .int) (hlk : meth.locks = false) (hK : va_K D vwCl ty s) (hP : va_P D vwCl wd H) (hD : va_D A wd) (hS : va_S A s.heap H locs) (hdg : decode cc pc = .ok (.ireturn, 1)) (hv : v = ρ) (hw : wd = wd') : W p l e R s m args below meth c H locs 0 0 (MQ below (QI ρ D ty wd' A) args s 0 0 A) (F0 m pc ls [.int v]) := by
  subst hw
  exact W.iret hx hb hr (fun t ht hW => ⟨⟨v, (), rfl, hv, by rw [ht]; exact hP, va_K.moved hW.alike hK, hD⟩, hS.F ht⟩) hS.2.2 hdg hlk
theorem e_wv (hx : p.tables.exec = Jvm.exec) (hb : c.code = cc) (hr : meth.sig.returnType = none) (hlk : meth.locks = false) (hK : va_K D vwCl ty s) (hP : va_P D vwCl wd H) (hD : va_D A wd) (hS : va_S A s.heap H locs) (hdg : decode cc pc = .ok (.return_, 1)) (hw : wd = wd') : W p l e R s m args below meth c H locs 0 0 (MQ below (QV D ty wd' A) args s 0 0 A) (F0 m pc ls []) := by
  subst hw
  exact W.vret hx hb hr (fun t ht hW => ⟨⟨(), rfl, trivial, by rw [ht]; exact hP, va_K.moved hW.alike hK, hD⟩, hS.F ht⟩) hS.2.2 hdg hlk
/-- beginnings -/
theorem m_rd {av : List Value} {lv0 : List (Nat × Value)} (hy : plainName y.cls = true) (hw : ws = Cond.code y cc maxL ret :: ws') (hav : (lg_sl av).length ≤ maxL) (hlv : lv_args 0 av = lv0)
    (body : ∀ (p : Program) (e : Env) (s : State) (m : MethodId) (below : List Frame) (meth : Method) (c : Code) (ls : Array Slot), CallFix p m c cc maxL s av.toArray ws y.cls → meth.sig.returnType = ret → meth.locks = false → va_P D vwCl wd s.heap → va_K D vwCl ty s → lv_has ls maxL lv0 →
      W p l e rm s m av.toArray below meth c s.heap [] 0 0 (MQ below (QR ρ) av.toArray s 0 0 (fun _ => False)) (F0 m 0 ls [])) : Met l y ws rm (PR av D ty wd) (QR ρ) 0 0 (fun _ => False) := by
  refine Met.ofW (cc := cc) (maxL := maxL) (ret := ret) hy hw ?_
  intro p e s m args below meth c s₁ B hml hv
  obtain ⟨rfl, hP, hK⟩ := hv
  have hl := lv_entry av (n := maxL) hav
  rw [hlv] at hl
  rw [lg_entry_eq]
  exact body p e s m below meth c _ ⟨B.exec, B.bytes, hml, findClass_of_methodNamed B.named, atoms_spec (ws := ws) B.pre⟩ B.returns B.notSynchronized hP hK hl
theorem m_wr {Qc : Array Value → State → Outcome → State → Prop} {av : List Value} {lv0 : List (Nat × Value)} {sz : Nat} (hy : plainName y.cls = true) (hw : ws = Cond.code y cc maxL ret :: ws') (hav : (lg_sl av).length ≤ maxL) (hlv : lv_args 0 av = lv0)
    (body : ∀ (p : Program) (e : Env) (s : State) (m : MethodId) (below : List Frame) (meth : Method) (c : Code) (ls : Array Slot) (A : Nat → Prop), A = va_A wd sz → CallFix p m c cc maxL s av.toArray ws y.cls → meth.sig.returnType = ret → meth.locks = false → va_P D vwCl wd s.heap → va_K D vwCl ty s → va_D A wd → va_S A s.heap s.heap [] → (∀ q, s.heap.size ≤ q → A q) → lv_has ls maxL lv0 →
      W p l e rm s m av.toArray below meth c s.heap [] 0 0 (MQ below Qc av.toArray s 0 0 A) (F0 m 0 ls [])) : Met l y ws rm (PW av sz D ty wd) Qc 0 0 (va_A wd sz) := by
  refine Met.ofW (cc := cc) (maxL := maxL) (ret := ret) hy hw ?_
  intro p e s m args below meth c s₁ B hml hv
  obtain ⟨rfl, hsz, hP, hK, hD0⟩ := hv
  subst hsz
  have hl := lv_entry av (n := maxL) hav
  rw [hlv] at hl
  rw [lg_entry_eq]
  exact body p e s m below meth c _ _ rfl ⟨B.exec, B.bytes, hml, findClass_of_methodNamed B.named, atoms_spec (ws := ws) B.pre⟩ B.returns B.notSynchronized hP hK hD0.self va_S.rf (fun q h => Or.inr h) hl
end KB
end
section
section ST
variable {p : Program} {l : Launch} {e : Env} {R : Room} {s : State} {m : MethodId} {args : Array Value} {below : List Frame} {meth : Method} {c : Code} {H : Heap} {locs : List Loc} {cells slots : Nat} {Q : State → Prop}
variable {pc : Nat} {ls : Array Slot} {rest : List Value} {Ts : List Cond} {cc : ByteArray} {nL index : Nat} {own : String} {D : va_G} {A : Nat → Prop} {H0 : Heap} {cI cZ cQ : ClassId} {h : Nat} {a b : Nat → Nat} {X : va_W} {f g : Nat → Nat → Int32} {i x : Int32}
theorem st_L3 (hx : p.tables.exec = Jvm.exec) (hb : c.code = cc) (hK : va_K D vwCl (TY cI cZ cQ) s) (hP : va_P D vwCl (LW cI h a f ++ X) H) (hD : va_D A (LW cI h a f ++ X)) (hS : va_S A H0 H locs) (hin : vp_in i 7) (hdg : decode cc pc = .ok (.iastore, 1)) (kk : ∀ (H1 : Heap) (locs1 : List Loc), va_P D vwCl (LW cI h a (up2 f 3 (ix i) x) ++ X) H1 → va_D A (LW cI h a (up2 f 3 (ix i) x) ++ X) → va_S A H0 H1 locs1 → W p l e R s m args below meth c H1 locs1 cells slots Q (F0 m (pc + 1) ls rest)) : W p l e R s m args below meth c H locs cells slots Q (F0 m pc ls (.int x :: .int i :: .ref (a 3) :: rest)) :=
  va_iast hx hb hK hP hD hS 1 0 rfl rfl hin hdg kk
theorem st_L4 (hx : p.tables.exec = Jvm.exec) (hb : c.code = cc) (hK : va_K D vwCl (TY cI cZ cQ) s) (hP : va_P D vwCl (LW cI h a f ++ X) H) (hD : va_D A (LW cI h a f ++ X)) (hS : va_S A H0 H locs) (hin : vp_in i 7) (hdg : decode cc pc = .ok (.iastore, 1)) (kk : ∀ (H1 : Heap) (locs1 : List Loc), va_P D vwCl (LW cI h a (up2 f 4 (ix i) x) ++ X) H1 → va_D A (LW cI h a (up2 f 4 (ix i) x) ++ X) → va_S A H0 H1 locs1 → W p l e R s m args below meth c H1 locs1 cells slots Q (F0 m (pc + 1) ls rest)) : W p l e R s m args below meth c H locs cells slots Q (F0 m pc ls (.int x :: .int i :: .ref (a 4) :: rest)) :=
  va_iast hx hb hK hP hD hS 2 0 rfl rfl hin hdg kk
theorem st_L5 (hx : p.tables.exec = Jvm.exec) (hb : c.code = cc) (hK : va_K D vwCl (TY cI cZ cQ) s) (hP : va_P D vwCl (LW cI h a f ++ X) H) (hD : va_D A (LW cI h a f ++ X)) (hS : va_S A H0 H locs) (hin : vp_in i 7) (hdg : decode cc pc = .ok (.iastore, 1)) (kk : ∀ (H1 : Heap) (locs1 : List Loc), va_P D vwCl (LW cI h a (up2 f 5 (ix i) x) ++ X) H1 → va_D A (LW cI h a (up2 f 5 (ix i) x) ++ X) → va_S A H0 H1 locs1 → W p l e R s m args below meth c H1 locs1 cells slots Q (F0 m (pc + 1) ls rest)) : W p l e R s m args below meth c H locs cells slots Q (F0 m pc ls (.int x :: .int i :: .ref (a 5) :: rest)) :=
  va_iast hx hb hK hP hD hS 3 0 rfl rfl hin hdg kk
theorem st_L6 (hx : p.tables.exec = Jvm.exec) (hb : c.code = cc) (hK : va_K D vwCl (TY cI cZ cQ) s) (hP : va_P D vwCl (LW cI h a f ++ X) H) (hD : va_D A (LW cI h a f ++ X)) (hS : va_S A H0 H locs) (hin : vp_in i 7) (hdg : decode cc pc = .ok (.iastore, 1)) (kk : ∀ (H1 : Heap) (locs1 : List Loc), va_P D vwCl (LW cI h a (up2 f 6 (ix i) x) ++ X) H1 → va_D A (LW cI h a (up2 f 6 (ix i) x) ++ X) → va_S A H0 H1 locs1 → W p l e R s m args below meth c H1 locs1 cells slots Q (F0 m (pc + 1) ls rest)) : W p l e R s m args below meth c H locs cells slots Q (F0 m pc ls (.int x :: .int i :: .ref (a 6) :: rest)) :=
  va_iast hx hb hK hP hD hS 4 0 rfl rfl hin hdg kk
theorem st_L7 (hx : p.tables.exec = Jvm.exec) (hb : c.code = cc) (hK : va_K D vwCl (TY cI cZ cQ) s) (hP : va_P D vwCl (LW cI h a f ++ X) H) (hD : va_D A (LW cI h a f ++ X)) (hS : va_S A H0 H locs) (hin : vp_in i 7) (hdg : decode cc pc = .ok (.iastore, 1)) (kk : ∀ (H1 : Heap) (locs1 : List Loc), va_P D vwCl (LW cI h a (up2 f 7 (ix i) x) ++ X) H1 → va_D A (LW cI h a (up2 f 7 (ix i) x) ++ X) → va_S A H0 H1 locs1 → W p l e R s m args below meth c H1 locs1 cells slots Q (F0 m (pc + 1) ls rest)) : W p l e R s m args below meth c H locs cells slots Q (F0 m pc ls (.int x :: .int i :: .ref (a 7) :: rest)) :=
  va_iast hx hb hK hP hD hS 5 0 rfl rfl hin hdg kk
theorem st_L8 (hx : p.tables.exec = Jvm.exec) (hb : c.code = cc) (hK : va_K D vwCl (TY cI cZ cQ) s) (hP : va_P D vwCl (LW cI h a f ++ X) H) (hD : va_D A (LW cI h a f ++ X)) (hS : va_S A H0 H locs) (hin : vp_in i 7) (hdg : decode cc pc = .ok (.iastore, 1)) (kk : ∀ (H1 : Heap) (locs1 : List Loc), va_P D vwCl (LW cI h a (up2 f 8 (ix i) x) ++ X) H1 → va_D A (LW cI h a (up2 f 8 (ix i) x) ++ X) → va_S A H0 H1 locs1 → W p l e R s m args below meth c H1 locs1 cells slots Q (F0 m (pc + 1) ls rest)) : W p l e R s m args below meth c H locs cells slots Q (F0 m pc ls (.int x :: .int i :: .ref (a 8) :: rest)) :=
  va_iast hx hb hK hP hD hS 6 0 rfl rfl hin hdg kk
theorem st_L9 (hx : p.tables.exec = Jvm.exec) (hb : c.code = cc) (hK : va_K D vwCl (TY cI cZ cQ) s) (hP : va_P D vwCl (LW cI h a f ++ X) H) (hD : va_D A (LW cI h a f ++ X)) (hS : va_S A H0 H locs) (hin : vp_in i 7) (hdg : decode cc pc = .ok (.iastore, 1)) (kk : ∀ (H1 : Heap) (locs1 : List Loc), va_P D vwCl (LW cI h a (up2 f 9 (ix i) x) ++ X) H1 → va_D A (LW cI h a (up2 f 9 (ix i) x) ++ X) → va_S A H0 H1 locs1 → W p l e R s m args below meth c H1 locs1 cells slots Q (F0 m (pc + 1) ls rest)) : W p l e R s m args below meth c H locs cells slots Q (F0 m pc ls (.int x :: .int i :: .ref (a 9) :: rest)) :=
  va_iast hx hb hK hP hD hS 7 0 rfl rfl hin hdg kk
theorem st_L10 (hx : p.tables.exec = Jvm.exec) (hb : c.code = cc) (hK : va_K D vwCl (TY cI cZ cQ) s) (hP : va_P D vwCl (LW cI h a f ++ X) H) (hD : va_D A (LW cI h a f ++ X)) (hS : va_S A H0 H locs) (hin : vp_in i 7) (hdg : decode cc pc = .ok (.iastore, 1)) (kk : ∀ (H1 : Heap) (locs1 : List Loc), va_P D vwCl (LW cI h a (up2 f 10 (ix i) x) ++ X) H1 → va_D A (LW cI h a (up2 f 10 (ix i) x) ++ X) → va_S A H0 H1 locs1 → W p l e R s m args below meth c H1 locs1 cells slots Q (F0 m (pc + 1) ls rest)) : W p l e R s m args below meth c H locs cells slots Q (F0 m pc ls (.int x :: .int i :: .ref (a 10) :: rest)) :=
  va_iast hx hb hK hP hD hS 8 0 rfl rfl hin hdg kk
theorem st_L11 (hx : p.tables.exec = Jvm.exec) (hb : c.code = cc) (hK : va_K D vwCl (TY cI cZ cQ) s) (hP : va_P D vwCl (LW cI h a f ++ X) H) (hD : va_D A (LW cI h a f ++ X)) (hS : va_S A H0 H locs) (hin : vp_in i 6) (hdg : decode cc pc = .ok (.iastore, 1)) (kk : ∀ (H1 : Heap) (locs1 : List Loc), va_P D vwCl (LW cI h a (up2 f 11 (ix i) x) ++ X) H1 → va_D A (LW cI h a (up2 f 11 (ix i) x) ++ X) → va_S A H0 H1 locs1 → W p l e R s m args below meth c H1 locs1 cells slots Q (F0 m (pc + 1) ls rest)) : W p l e R s m args below meth c H locs cells slots Q (F0 m pc ls (.int x :: .int i :: .ref (a 11) :: rest)) :=
  va_iast hx hb hK hP hD hS 9 0 rfl rfl hin hdg kk
theorem st_L12 (hx : p.tables.exec = Jvm.exec) (hb : c.code = cc) (hK : va_K D vwCl (TY cI cZ cQ) s) (hP : va_P D vwCl (LW cI h a f ++ X) H) (hD : va_D A (LW cI h a f ++ X)) (hS : va_S A H0 H locs) (hin : vp_in i 6) (hdg : decode cc pc = .ok (.iastore, 1)) (kk : ∀ (H1 : Heap) (locs1 : List Loc), va_P D vwCl (LW cI h a (up2 f 12 (ix i) x) ++ X) H1 → va_D A (LW cI h a (up2 f 12 (ix i) x) ++ X) → va_S A H0 H1 locs1 → W p l e R s m args below meth c H1 locs1 cells slots Q (F0 m (pc + 1) ls rest)) : W p l e R s m args below meth c H locs cells slots Q (F0 m pc ls (.int x :: .int i :: .ref (a 12) :: rest)) :=
  va_iast hx hb hK hP hD hS 10 0 rfl rfl hin hdg kk
theorem st_L13 (hx : p.tables.exec = Jvm.exec) (hb : c.code = cc) (hK : va_K D vwCl (TY cI cZ cQ) s) (hP : va_P D vwCl (LW cI h a f ++ X) H) (hD : va_D A (LW cI h a f ++ X)) (hS : va_S A H0 H locs) (hin : vp_in i 6) (hdg : decode cc pc = .ok (.iastore, 1)) (kk : ∀ (H1 : Heap) (locs1 : List Loc), va_P D vwCl (LW cI h a (up2 f 13 (ix i) x) ++ X) H1 → va_D A (LW cI h a (up2 f 13 (ix i) x) ++ X) → va_S A H0 H1 locs1 → W p l e R s m args below meth c H1 locs1 cells slots Q (F0 m (pc + 1) ls rest)) : W p l e R s m args below meth c H locs cells slots Q (F0 m pc ls (.int x :: .int i :: .ref (a 13) :: rest)) :=
  va_iast hx hb hK hP hD hS 11 0 rfl rfl hin hdg kk
theorem st_L14 (hx : p.tables.exec = Jvm.exec) (hb : c.code = cc) (hK : va_K D vwCl (TY cI cZ cQ) s) (hP : va_P D vwCl (LW cI h a f ++ X) H) (hD : va_D A (LW cI h a f ++ X)) (hS : va_S A H0 H locs) (hin : vp_in i 6) (hdg : decode cc pc = .ok (.iastore, 1)) (kk : ∀ (H1 : Heap) (locs1 : List Loc), va_P D vwCl (LW cI h a (up2 f 14 (ix i) x) ++ X) H1 → va_D A (LW cI h a (up2 f 14 (ix i) x) ++ X) → va_S A H0 H1 locs1 → W p l e R s m args below meth c H1 locs1 cells slots Q (F0 m (pc + 1) ls rest)) : W p l e R s m args below meth c H locs cells slots Q (F0 m pc ls (.int x :: .int i :: .ref (a 14) :: rest)) :=
  va_iast hx hb hK hP hD hS 12 0 rfl rfl hin hdg kk
theorem pf_L0 (S : CallFix p m c cc nL s args Ts own) (hin : ∀ w ∈ wsX30, w ∈ Ts) (hK : va_K D vwCl (TY cI cZ cQ) s) (hP : va_P D vwCl (LW cI h a f ++ X) H) (hD : va_D A (LW cI h a f ++ X)) (hS : va_S A H0 H locs) (hlink : (Cond.fieldLink own index "AxleKeeper$Line" "sections" "I").before args s = true) (hdg : decode cc pc = .ok (.putfield index, 3)) (kk : ∀ (H1 : Heap) (locs1 : List Loc), va_P D vwCl (LW cI h a (up2 f 0 0 x) ++ X) H1 → va_D A (LW cI h a (up2 f 0 0 x) ++ X) → va_S A H0 H1 locs1 → W p l e R s m args below meth c H1 locs1 cells slots Q (F0 m (pc + 3) ls rest)) : W p l e R s m args below meth c H locs cells slots Q (F0 m pc ls (.int x :: .ref h :: rest)) :=
  va_put (v := .int x) (ty := .int) (C := RX3) (T := TX3) (N := 15) (ci := 3) S.1 S.2.1 S.2.2.2.2 hin tyX3 tyX3_ok nmX3 S.2.2.2.1 hK hP hD hS 0 rfl rfl 0 (by decide) hlink (fun _ h9 => h9) rfl (by decide +kernel) rfl rfl (Nat.le_of_ble_eq_true rfl) hdg kk
theorem pf_L1 (S : CallFix p m c cc nL s args Ts own) (hin : ∀ w ∈ wsX30, w ∈ Ts) (hK : va_K D vwCl (TY cI cZ cQ) s) (hP : va_P D vwCl (LW cI h a f ++ X) H) (hD : va_D A (LW cI h a f ++ X)) (hS : va_S A H0 H locs) (hlink : (Cond.fieldLink own index "AxleKeeper$Line" "ring" "Z").before args s = true) (hn : narrow .boolean (.int x) = .int x) (hft : fits .boolean (.int x) = true) (hdg : decode cc pc = .ok (.putfield index, 3)) (kk : ∀ (H1 : Heap) (locs1 : List Loc), va_P D vwCl (LW cI h a (up2 f 1 0 x) ++ X) H1 → va_D A (LW cI h a (up2 f 1 0 x) ++ X) → va_S A H0 H1 locs1 → W p l e R s m args below meth c H1 locs1 cells slots Q (F0 m (pc + 3) ls rest)) : W p l e R s m args below meth c H locs cells slots Q (F0 m pc ls (.int x :: .ref h :: rest)) :=
  va_put (v := .int x) (ty := .boolean) (C := RX3) (T := TX3) (N := 15) (ci := 3) S.1 S.2.1 S.2.2.2.2 hin tyX3 tyX3_ok nmX3 S.2.2.2.1 hK hP hD hS 0 rfl rfl 1 (by decide) hlink (fun _ h9 => h9) rfl (by decide +kernel) hn hft (Nat.le_of_ble_eq_true rfl) hdg kk
theorem pf_L2 (S : CallFix p m c cc nL s args Ts own) (hin : ∀ w ∈ wsX30, w ∈ Ts) (hK : va_K D vwCl (TY cI cZ cQ) s) (hP : va_P D vwCl (LW cI h a f ++ X) H) (hD : va_D A (LW cI h a f ++ X)) (hS : va_S A H0 H locs) (hlink : (Cond.fieldLink own index "AxleKeeper$Line" "ticks" "I").before args s = true) (hdg : decode cc pc = .ok (.putfield index, 3)) (kk : ∀ (H1 : Heap) (locs1 : List Loc), va_P D vwCl (LW cI h a (up2 f 2 0 x) ++ X) H1 → va_D A (LW cI h a (up2 f 2 0 x) ++ X) → va_S A H0 H1 locs1 → W p l e R s m args below meth c H1 locs1 cells slots Q (F0 m (pc + 3) ls rest)) : W p l e R s m args below meth c H locs cells slots Q (F0 m pc ls (.int x :: .ref h :: rest)) :=
  va_put (v := .int x) (ty := .int) (C := RX3) (T := TX3) (N := 15) (ci := 3) S.1 S.2.1 S.2.2.2.2 hin tyX3 tyX3_ok nmX3 S.2.2.2.1 hK hP hD hS 0 rfl rfl 2 (by decide) hlink (fun _ h9 => h9) rfl (by decide +kernel) rfl rfl (Nat.le_of_ble_eq_true rfl) hdg kk
theorem st_M0 (hx : p.tables.exec = Jvm.exec) (hb : c.code = cc) (hK : va_K D vwCl (TY cI cZ cQ) s) (hP : va_P D vwCl (MW cI h a f ++ X) H) (hD : va_D A (MW cI h a f ++ X)) (hS : va_S A H0 H locs) (hin : vp_in i 1680) (hdg : decode cc pc = .ok (.iastore, 1)) (kk : ∀ (H1 : Heap) (locs1 : List Loc), va_P D vwCl (MW cI h a (up2 f 0 (ix i) x) ++ X) H1 → va_D A (MW cI h a (up2 f 0 (ix i) x) ++ X) → va_S A H0 H1 locs1 → W p l e R s m args below meth c H1 locs1 cells slots Q (F0 m (pc + 1) ls rest)) : W p l e R s m args below meth c H locs cells slots Q (F0 m pc ls (.int x :: .int i :: .ref (a 0) :: rest)) :=
  va_iast hx hb hK hP hD hS 1 0 rfl rfl hin hdg kk
theorem st_M3 (hx : p.tables.exec = Jvm.exec) (hb : c.code = cc) (hK : va_K D vwCl (TY cI cZ cQ) s) (hP : va_P D vwCl (MW cI h a f ++ X) H) (hD : va_D A (MW cI h a f ++ X)) (hS : va_S A H0 H locs) (hin : vp_in i 20) (hdg : decode cc pc = .ok (.iastore, 1)) (kk : ∀ (H1 : Heap) (locs1 : List Loc), va_P D vwCl (MW cI h a (up2 f 3 (ix i) x) ++ X) H1 → va_D A (MW cI h a (up2 f 3 (ix i) x) ++ X) → va_S A H0 H1 locs1 → W p l e R s m args below meth c H1 locs1 cells slots Q (F0 m (pc + 1) ls rest)) : W p l e R s m args below meth c H locs cells slots Q (F0 m pc ls (.int x :: .int i :: .ref (a 3) :: rest)) :=
  va_iast hx hb hK hP hD hS 2 0 rfl rfl hin hdg kk
theorem st_M4 (hx : p.tables.exec = Jvm.exec) (hb : c.code = cc) (hK : va_K D vwCl (TY cI cZ cQ) s) (hP : va_P D vwCl (MW cI h a f ++ X) H) (hD : va_D A (MW cI h a f ++ X)) (hS : va_S A H0 H locs) (hin : vp_in i 20) (hdg : decode cc pc = .ok (.iastore, 1)) (kk : ∀ (H1 : Heap) (locs1 : List Loc), va_P D vwCl (MW cI h a (up2 f 4 (ix i) x) ++ X) H1 → va_D A (MW cI h a (up2 f 4 (ix i) x) ++ X) → va_S A H0 H1 locs1 → W p l e R s m args below meth c H1 locs1 cells slots Q (F0 m (pc + 1) ls rest)) : W p l e R s m args below meth c H locs cells slots Q (F0 m pc ls (.int x :: .int i :: .ref (a 4) :: rest)) :=
  va_iast hx hb hK hP hD hS 3 0 rfl rfl hin hdg kk
theorem pf_M1 (S : CallFix p m c cc nL s args Ts own) (hin : ∀ w ∈ wsX60, w ∈ Ts) (hK : va_K D vwCl (TY cI cZ cQ) s) (hP : va_P D vwCl (MW cI h a f ++ X) H) (hD : va_D A (MW cI h a f ++ X)) (hS : va_S A H0 H locs) (hlink : (Cond.fieldLink own index "AxleKeeperModel" "known" "I").before args s = true) (hdg : decode cc pc = .ok (.putfield index, 3)) (kk : ∀ (H1 : Heap) (locs1 : List Loc), va_P D vwCl (MW cI h a (up2 f 1 0 x) ++ X) H1 → va_D A (MW cI h a (up2 f 1 0 x) ++ X) → va_S A H0 H1 locs1 → W p l e R s m args below meth c H1 locs1 cells slots Q (F0 m (pc + 3) ls rest)) : W p l e R s m args below meth c H locs cells slots Q (F0 m pc ls (.int x :: .ref h :: rest)) :=
  va_put (v := .int x) (ty := .int) (C := RX6) (T := TX6) (N := 6) (ci := 6) S.1 S.2.1 S.2.2.2.2 hin tyX6 tyX6_ok nmX6 S.2.2.2.1 hK hP hD hS 0 rfl rfl 1 (by decide) hlink (fun _ h9 => h9) rfl (by decide +kernel) rfl rfl (Nat.le_of_ble_eq_true rfl) hdg kk
theorem pf_M2 (S : CallFix p m c cc nL s args Ts own) (hin : ∀ w ∈ wsX60, w ∈ Ts) (hK : va_K D vwCl (TY cI cZ cQ) s) (hP : va_P D vwCl (MW cI h a f ++ X) H) (hD : va_D A (MW cI h a f ++ X)) (hS : va_S A H0 H locs) (hlink : (Cond.fieldLink own index "AxleKeeperModel" "kept" "I").before args s = true) (hdg : decode cc pc = .ok (.putfield index, 3)) (kk : ∀ (H1 : Heap) (locs1 : List Loc), va_P D vwCl (MW cI h a (up2 f 2 0 x) ++ X) H1 → va_D A (MW cI h a (up2 f 2 0 x) ++ X) → va_S A H0 H1 locs1 → W p l e R s m args below meth c H1 locs1 cells slots Q (F0 m (pc + 3) ls rest)) : W p l e R s m args below meth c H locs cells slots Q (F0 m pc ls (.int x :: .ref h :: rest)) :=
  va_put (v := .int x) (ty := .int) (C := RX6) (T := TX6) (N := 6) (ci := 6) S.1 S.2.1 S.2.2.2.2 hin tyX6 tyX6_ok nmX6 S.2.2.2.1 hK hP hD hS 0 rfl rfl 2 (by decide) hlink (fun _ h9 => h9) rfl (by decide +kernel) rfl rfl (Nat.le_of_ble_eq_true rfl) hdg kk
theorem pf_M5 (S : CallFix p m c cc nL s args Ts own) (hin : ∀ w ∈ wsX60, w ∈ Ts) (hK : va_K D vwCl (TY cI cZ cQ) s) (hP : va_P D vwCl (MW cI h a f ++ X) H) (hD : va_D A (MW cI h a f ++ X)) (hS : va_S A H0 H locs) (hlink : (Cond.fieldLink own index "AxleKeeperModel" "written" "I").before args s = true) (hdg : decode cc pc = .ok (.putfield index, 3)) (kk : ∀ (H1 : Heap) (locs1 : List Loc), va_P D vwCl (MW cI h a (up2 f 5 0 x) ++ X) H1 → va_D A (MW cI h a (up2 f 5 0 x) ++ X) → va_S A H0 H1 locs1 → W p l e R s m args below meth c H1 locs1 cells slots Q (F0 m (pc + 3) ls rest)) : W p l e R s m args below meth c H locs cells slots Q (F0 m pc ls (.int x :: .ref h :: rest)) :=
  va_put (v := .int x) (ty := .int) (C := RX6) (T := TX6) (N := 6) (ci := 6) S.1 S.2.1 S.2.2.2.2 hin tyX6 tyX6_ok nmX6 S.2.2.2.1 hK hP hD hS 0 rfl rfl 5 (by decide) hlink (fun _ h9 => h9) rfl (by decide +kernel) rfl rfl (Nat.le_of_ble_eq_true rfl) hdg kk
end ST
end
section
def kX3_heads (f : Nat → Nat → Int32) : Int32 := (if (f 1 0) = 0 then ((f 0 0) + 1) else (f 0 0))
def kX3_hasSection (f : Nat → Nat → Int32) (x1 : Int32) : Int32 := (if x1 < 0 then 0 else (if (f 0 0) ≤ x1 then 0 else 1))
def kX3_hasHead (f : Nat → Nat → Int32) (x1 : Int32) : Int32 := (if x1 < 0 then 0 else (if (kX3_heads f) ≤ x1 then 0 else 1))
def kX3_hasHeads (f : Nat → Nat → Int32) (x1 : Int32) : Int32 := (if ((x1).toUInt32 >>> (((kX3_heads f)).toUInt32 &&& Int32.toUInt32 31)).toInt32 = 0 then 1 else 0)
def kX3_leftOf (f : Nat → Nat → Int32) (x1 : Int32) : Int32 := (if x1 ≤ 0 then (if (f 1 0) = 0 then (-1) else ((f 0 0) - 1)) else (x1 - 1))
def kX3_rightOf (f : Nat → Nat → Int32) (x1 : Int32) : Int32 := (if (f 0 0) ≤ x1 then (-1) else x1)
def kX3_rightHead (f : Nat → Nat → Int32) (x1 : Int32) : Int32 := (if (f 1 0) = 0 then (x1 + 1) else (if (x1 + 1) = (f 0 0) then 0 else (x1 + 1)))
def kX3_joins (f : Nat → Nat → Int32) (x1 : Int32) : Int32 := (if (kX3_hasSection f (kX3_leftOf f x1)) = 0 then 0 else (if (kX3_hasSection f (kX3_rightOf f x1)) = 0 then 0 else (if (kX3_leftOf f x1) = (kX3_rightOf f x1) then 0 else 1)))
def kX3_feelsAll (f : Nat → Nat → Int32) (x1 : Int32) : Int32 := (if (f 6 (ix x1)) = 0 then (if (f 3 (ix x1)) = 0 then 1 else 0) else 0)
def kX3_from (f : Nat → Nat → Int32) (x1 x2 : Int32) : Int32 := (if x2 = 0 then (kX3_leftOf f x1) else (kX3_rightOf f x1))
def kX3_canCarry (f : Nat → Nat → Int32) (x1 x2 x3 : Int32) : Int32 := (if (kX3_hasSection f (kX3_from f x1 x2)) = 0 then 1 else (if (f 14 (ix (kX3_from f x1 x2))) < x3 then 0 else 1))
def kX3_isBad (f : Nat → Nat → Int32) (x1 : Int32) : Int32 := (if (f 8 (ix x1)) = 1 then 1 else (if (f 9 (ix x1)) ≤ 3 then 0 else 1))
def kX3_hasBadHead (f : Nat → Nat → Int32) (x1 : Int32) : Int32 := (if (kX3_isBad f x1) = 0 then (if (kX3_isBad f (kX3_rightHead f x1)) = 0 then 0 else 1) else 1)
def kX3_hasTrouble (f : Nat → Nat → Int32) (x1 : Int32) : Int32 := (if (f 11 (ix x1)) < 0 then 1 else (if (kX3_hasBadHead f x1) = 0 then 0 else 1))
def kX3_joint (f : Nat → Nat → Int32) (x1 : Int32) : Int32 := (if (kX3_hasSection f (kX3_leftOf f x1)) = 0 then 0 else (if (kX3_hasSection f (kX3_rightOf f x1)) = 0 then 0 else ((f 11 (ix (kX3_leftOf f x1))) + (f 11 (ix (kX3_rightOf f x1))))))
def kX3_canHeal (f : Nat → Nat → Int32) (x1 x2 x3 : Int32) : Int32 := (if (f 10 (ix x1)) = 1 then (if (kX3_joint f x1) = 0 then (if (kX3_hasBadHead f x2) = 0 then (if (kX3_hasBadHead f x3) = 0 then 1 else 0) else 0) else 0) else 0)
def kX3_called_4 (x1 : Int32) : Nat → Nat → (Nat → Nat → Int32) → Int32 → Int32
  | 0, i, f, v2 => 0
  | n + 1, i, f, v2 => (if (f 0 0) ≤ (nI i) then v2 else (if (f 12 (ix (nI i))) = x1 then kX3_called_4 x1 n (i + 1) f (v2 ||| ((1 : Int32) <<< ((nI i) &&& 31))) else kX3_called_4 x1 n (i + 1) f v2))
def kX3_called (f : Nat → Nat → Int32) (x1 : Int32) : Int32 := kX3_called_4 x1 7 0 f 0
def kX3_empty_4 : Nat → Nat → (Nat → Nat → Int32) → Int32 → Int32
  | 0, i, f, v1 => 0
  | n + 1, i, f, v1 => (if (f 0 0) ≤ (nI i) then v1 else (if (f 14 (ix (nI i))) = 0 then kX3_empty_4  n (i + 1) f (v1 ||| ((1 : Int32) <<< ((nI i) &&& 31))) else kX3_empty_4  n (i + 1) f v1))
def kX3_empty (f : Nat → Nat → Int32) : Int32 := kX3_empty_4  7 0 f 0
def kX3_wronglyClear (f : Nat → Nat → Int32) : Int32 := ((kX3_called f 0) &&& ((kX3_empty f) ^^^ (-1)))
def kX3_idle (f : Nat → Nat → Int32) : Int32 := ((kX3_empty f) &&& ((kX3_called f 0) ^^^ (-1)))
def kX3_faultyHeads_4 : Nat → Nat → (Nat → Nat → Int32) → Int32 → Int32
  | 0, i, f, v1 => 0
  | n + 1, i, f, v1 => (if (kX3_heads f) ≤ (nI i) then v1 else kX3_faultyHeads_4  n (i + 1) f (v1 ||| ((f 6 (ix (nI i))) <<< ((nI i) &&& 31))))
def kX3_faultyHeads (f : Nat → Nat → Int32) : Int32 := kX3_faultyHeads_4  8 0 f 0
def kX3_axlesInAll_4 : Nat → Nat → (Nat → Nat → Int32) → Int32 → Int32
  | 0, i, f, v1 => 0
  | n + 1, i, f, v1 => (if (f 0 0) ≤ (nI i) then v1 else kX3_axlesInAll_4  n (i + 1) f (v1 + (f 14 (ix (nI i)))))
def kX3_axlesInAll (f : Nat → Nat → Int32) : Int32 := kX3_axlesInAll_4  7 0 f 0
def kX3_sumOfAll_4 : Nat → Nat → (Nat → Nat → Int32) → Int32 → Int32
  | 0, i, f, v1 => 0
  | n + 1, i, f, v1 => (if (f 0 0) ≤ (nI i) then v1 else kX3_sumOfAll_4  n (i + 1) f (v1 + (f 11 (ix (nI i)))))
def kX3_sumOfAll (f : Nat → Nat → Int32) : Int32 := kX3_sumOfAll_4  7 0 f 0
def kX3_explains_2 (x1 x2 : Int32) : Nat → Nat → (Nat → Nat → Int32) → Int32
  | 0, i, f => 0
  | n + 1, i, f => (if (f 0 0) ≤ (nI i) then 1 else (if (nI i) = (kX3_rightOf f x1) then (if (nI i) = (kX3_leftOf f x1) then (if 0 ≤ (((f 11 (ix (nI i))) + x2) - x2) then kX3_explains_2 x1 x2 n (i + 1) f else 0) else (if 0 ≤ ((f 11 (ix (nI i))) + x2) then kX3_explains_2 x1 x2 n (i + 1) f else 0)) else (if (nI i) = (kX3_leftOf f x1) then (if 0 ≤ ((f 11 (ix (nI i))) - x2) then kX3_explains_2 x1 x2 n (i + 1) f else 0) else (if 0 ≤ (f 11 (ix (nI i))) then kX3_explains_2 x1 x2 n (i + 1) f else 0))))
def kX3_explains (f : Nat → Nat → Int32) (x1 x2 : Int32) : Int32 := kX3_explains_2 x1 x2 7 0 f
def kX3_miscount_13 (x1 : Int32) : Nat → Nat → (Nat → Nat → Int32) → Int32
  | 0, i, f => 0
  | n + 1, i, f => (if 9 < (nI i) then 0 else (if (kX3_explains f x1 (nI i)) = 0 then (if (kX3_explains f x1 (-(nI i))) = 0 then kX3_miscount_13 x1 n (i + 1) f else (-(nI i))) else (nI i)))
def kX3_miscount (f : Nat → Nat → Int32) (x1 : Int32) : Int32 := (if (kX3_explains f x1 0) = 0 then kX3_miscount_13 x1 10 1 f else 0)
def kX3_suspects_4 : Nat → Nat → (Nat → Nat → Int32) → Int32 → Int32
  | 0, i, f, v1 => 0
  | n + 1, i, f, v1 => (if (kX3_heads f) ≤ (nI i) then v1 else (if (kX3_miscount f (nI i)) = 0 then kX3_suspects_4  n (i + 1) f v1 else kX3_suspects_4  n (i + 1) f (v1 ||| ((1 : Int32) <<< ((nI i) &&& 31)))))
def kX3_suspects (f : Nat → Nat → Int32) : Int32 := kX3_suspects_4  8 0 f 0
def kX3_lossesLeft (f : Nat → Nat → Int32) (x1 : Int32) : Int32 := (if 0 < (4 - (if (f 9 (ix x1)) < (f 9 (ix (kX3_rightHead f x1))) then (f 9 (ix (kX3_rightHead f x1))) else (f 9 (ix x1)))) then (4 - (if (f 9 (ix x1)) < (f 9 (ix (kX3_rightHead f x1))) then (f 9 (ix (kX3_rightHead f x1))) else (f 9 (ix x1)))) else 0)
def kX3_clearRun_4 (x1 : Int32) : Nat → Nat → (Nat → Nat → Int32) → Int32 → Int32
  | 0, i, f, v3 => 0
  | n + 1, i, f, v3 => (if (f 0 0) ≤ (nI i) then (nI i) else (if (kX3_hasSection f v3) = 0 then (nI i) else (if (f 12 (ix v3)) = 0 then (if (v3 + 1) = (f 0 0) then (if (f 1 0) = 0 then kX3_clearRun_4 x1 n (i + 1) f (v3 + 1) else kX3_clearRun_4 x1 n (i + 1) f 0) else kX3_clearRun_4 x1 n (i + 1) f (v3 + 1)) else (nI i))))
def kX3_clearRun (f : Nat → Nat → Int32) (x1 : Int32) : Int32 := kX3_clearRun_4 x1 7 0 f x1
def kX3_countWheel (f : Nat → Nat → Int32) (x1 : Int32) : Int32 × (Nat → Nat → Int32) := (if (f 4 (ix x1)) = 4 then (1, (up2 (up2 f 4 (ix x1) 0) 5 (ix x1) ((f 5 (ix x1)) + 1))) else (if (f 4 (ix x1)) = (-4) then (2, (up2 (up2 f 4 (ix x1) 0) 5 (ix x1) ((f 5 (ix x1)) - 1))) else (0, f)))
def kX3_carry (f : Nat → Nat → Int32) (x1 x2 x3 x4 : Int32) : Int32 × (Nat → Nat → Int32) := (if x2 = 0 then (if x4 = 0 then (if (kX3_hasSection f (kX3_from f x1 x2)) = 0 then (if (kX3_hasSection f (kX3_rightOf f x1)) = 0 then (0, f) else (((up2 f 14 (ix (kX3_rightOf f x1)) ((f 14 (ix (kX3_rightOf f x1))) + x3)) 14 (ix (kX3_rightOf f x1))), (up2 f 14 (ix (kX3_rightOf f x1)) ((f 14 (ix (kX3_rightOf f x1))) + x3)))) else (if (kX3_hasSection (up2 f 14 (ix (kX3_from f x1 x2)) ((f 14 (ix (kX3_from f x1 x2))) - x3)) (kX3_rightOf f x1)) = 0 then (0, (up2 f 14 (ix (kX3_from f x1 x2)) ((f 14 (ix (kX3_from f x1 x2))) - x3))) else (((up2 (up2 f 14 (ix (kX3_from f x1 x2)) ((f 14 (ix (kX3_from f x1 x2))) - x3)) 14 (ix (kX3_rightOf f x1)) (((up2 f 14 (ix (kX3_from f x1 x2)) ((f 14 (ix (kX3_from f x1 x2))) - x3)) 14 (ix (kX3_rightOf f x1))) + x3)) 14 (ix (kX3_rightOf f x1))), (up2 (up2 f 14 (ix (kX3_from f x1 x2)) ((f 14 (ix (kX3_from f x1 x2))) - x3)) 14 (ix (kX3_rightOf f x1)) (((up2 f 14 (ix (kX3_from f x1 x2)) ((f 14 (ix (kX3_from f x1 x2))) - x3)) 14 (ix (kX3_rightOf f x1))) + x3))))) else (if (kX3_hasSection (up2 f 5 (ix x1) ((f 5 (ix x1)) + x3)) (kX3_from f x1 x2)) = 0 then (if (kX3_hasSection (up2 f 5 (ix x1) ((f 5 (ix x1)) + x3)) (kX3_rightOf f x1)) = 0 then (0, (up2 f 5 (ix x1) ((f 5 (ix x1)) + x3))) else (((up2 (up2 f 5 (ix x1) ((f 5 (ix x1)) + x3)) 14 (ix (kX3_rightOf f x1)) ((f 14 (ix (kX3_rightOf f x1))) + x3)) 14 (ix (kX3_rightOf f x1))), (up2 (up2 f 5 (ix x1) ((f 5 (ix x1)) + x3)) 14 (ix (kX3_rightOf f x1)) ((f 14 (ix (kX3_rightOf f x1))) + x3)))) else (if (kX3_hasSection (up2 (up2 f 5 (ix x1) ((f 5 (ix x1)) + x3)) 14 (ix (kX3_from f x1 x2)) ((f 14 (ix (kX3_from f x1 x2))) - x3)) (kX3_rightOf f x1)) = 0 then (0, (up2 (up2 f 5 (ix x1) ((f 5 (ix x1)) + x3)) 14 (ix (kX3_from f x1 x2)) ((f 14 (ix (kX3_from f x1 x2))) - x3))) else (((up2 (up2 (up2 f 5 (ix x1) ((f 5 (ix x1)) + x3)) 14 (ix (kX3_from f x1 x2)) ((f 14 (ix (kX3_from f x1 x2))) - x3)) 14 (ix (kX3_rightOf f x1)) (((up2 (up2 f 5 (ix x1) ((f 5 (ix x1)) + x3)) 14 (ix (kX3_from f x1 x2)) ((f 14 (ix (kX3_from f x1 x2))) - x3)) 14 (ix (kX3_rightOf f x1))) + x3)) 14 (ix (kX3_rightOf f x1))), (up2 (up2 (up2 f 5 (ix x1) ((f 5 (ix x1)) + x3)) 14 (ix (kX3_from f x1 x2)) ((f 14 (ix (kX3_from f x1 x2))) - x3)) 14 (ix (kX3_rightOf f x1)) (((up2 (up2 f 5 (ix x1) ((f 5 (ix x1)) + x3)) 14 (ix (kX3_from f x1 x2)) ((f 14 (ix (kX3_from f x1 x2))) - x3)) 14 (ix (kX3_rightOf f x1))) + x3)))))) else (if x4 = 0 then (if (kX3_hasSection f (kX3_from f x1 x2)) = 0 then (if (kX3_hasSection f (kX3_leftOf f x1)) = 0 then (0, f) else (((up2 f 14 (ix (kX3_leftOf f x1)) ((f 14 (ix (kX3_leftOf f x1))) + x3)) 14 (ix (kX3_leftOf f x1))), (up2 f 14 (ix (kX3_leftOf f x1)) ((f 14 (ix (kX3_leftOf f x1))) + x3)))) else (if (kX3_hasSection (up2 f 14 (ix (kX3_from f x1 x2)) ((f 14 (ix (kX3_from f x1 x2))) - x3)) (kX3_leftOf f x1)) = 0 then (0, (up2 f 14 (ix (kX3_from f x1 x2)) ((f 14 (ix (kX3_from f x1 x2))) - x3))) else (((up2 (up2 f 14 (ix (kX3_from f x1 x2)) ((f 14 (ix (kX3_from f x1 x2))) - x3)) 14 (ix (kX3_leftOf f x1)) (((up2 f 14 (ix (kX3_from f x1 x2)) ((f 14 (ix (kX3_from f x1 x2))) - x3)) 14 (ix (kX3_leftOf f x1))) + x3)) 14 (ix (kX3_leftOf f x1))), (up2 (up2 f 14 (ix (kX3_from f x1 x2)) ((f 14 (ix (kX3_from f x1 x2))) - x3)) 14 (ix (kX3_leftOf f x1)) (((up2 f 14 (ix (kX3_from f x1 x2)) ((f 14 (ix (kX3_from f x1 x2))) - x3)) 14 (ix (kX3_leftOf f x1))) + x3))))) else (if (kX3_hasSection (up2 f 5 (ix x1) ((f 5 (ix x1)) + (-x3))) (kX3_from f x1 x2)) = 0 then (if (kX3_hasSection (up2 f 5 (ix x1) ((f 5 (ix x1)) + (-x3))) (kX3_leftOf f x1)) = 0 then (0, (up2 f 5 (ix x1) ((f 5 (ix x1)) + (-x3)))) else (((up2 (up2 f 5 (ix x1) ((f 5 (ix x1)) + (-x3))) 14 (ix (kX3_leftOf f x1)) ((f 14 (ix (kX3_leftOf f x1))) + x3)) 14 (ix (kX3_leftOf f x1))), (up2 (up2 f 5 (ix x1) ((f 5 (ix x1)) + (-x3))) 14 (ix (kX3_leftOf f x1)) ((f 14 (ix (kX3_leftOf f x1))) + x3)))) else (if (kX3_hasSection (up2 (up2 f 5 (ix x1) ((f 5 (ix x1)) + (-x3))) 14 (ix (kX3_from f x1 x2)) ((f 14 (ix (kX3_from f x1 x2))) - x3)) (kX3_leftOf f x1)) = 0 then (0, (up2 (up2 f 5 (ix x1) ((f 5 (ix x1)) + (-x3))) 14 (ix (kX3_from f x1 x2)) ((f 14 (ix (kX3_from f x1 x2))) - x3))) else (((up2 (up2 (up2 f 5 (ix x1) ((f 5 (ix x1)) + (-x3))) 14 (ix (kX3_from f x1 x2)) ((f 14 (ix (kX3_from f x1 x2))) - x3)) 14 (ix (kX3_leftOf f x1)) (((up2 (up2 f 5 (ix x1) ((f 5 (ix x1)) + (-x3))) 14 (ix (kX3_from f x1 x2)) ((f 14 (ix (kX3_from f x1 x2))) - x3)) 14 (ix (kX3_leftOf f x1))) + x3)) 14 (ix (kX3_leftOf f x1))), (up2 (up2 (up2 f 5 (ix x1) ((f 5 (ix x1)) + (-x3))) 14 (ix (kX3_from f x1 x2)) ((f 14 (ix (kX3_from f x1 x2))) - x3)) 14 (ix (kX3_leftOf f x1)) (((up2 (up2 f 5 (ix x1) ((f 5 (ix x1)) + (-x3))) 14 (ix (kX3_from f x1 x2)) ((f 14 (ix (kX3_from f x1 x2))) - x3)) 14 (ix (kX3_leftOf f x1))) + x3)))))))
def kX3_mend (f : Nat → Nat → Int32) (x1 : Int32) : (Nat → Nat → Int32) := (up2 (up2 (up2 f 6 (ix x1) 0) 3 (ix x1) 0) 4 (ix x1) 0)
def kX3_addToSum (f : Nat → Nat → Int32) (x1 x2 : Int32) : (Nat → Nat → Int32) := (if (kX3_hasSection f x1) = 0 then f else (up2 f 11 (ix x1) ((f 11 (ix x1)) + x2)))
def kX3_receive (f : Nat → Nat → Int32) (x1 : Int32) : (Nat → Nat → Int32) := (if ((((f 5 (ix x1)) &&& 15) - (f 7 (ix x1))) &&& 15) ≤ 8 then (up2 (up2 (up2 (kX3_addToSum (kX3_addToSum f (kX3_rightOf f x1) ((((f 5 (ix x1)) &&& 15) - (f 7 (ix x1))) &&& 15)) (kX3_leftOf (kX3_addToSum f (kX3_rightOf f x1) ((((f 5 (ix x1)) &&& 15) - (f 7 (ix x1))) &&& 15)) x1) (-((((f 5 (ix x1)) &&& 15) - (f 7 (ix x1))) &&& 15))) 7 (ix x1) ((f 5 (ix x1)) &&& 15)) 8 (ix x1) ((kX3_addToSum (kX3_addToSum f (kX3_rightOf f x1) ((((f 5 (ix x1)) &&& 15) - (f 7 (ix x1))) &&& 15)) (kX3_leftOf (kX3_addToSum f (kX3_rightOf f x1) ((((f 5 (ix x1)) &&& 15) - (f 7 (ix x1))) &&& 15)) x1) (-((((f 5 (ix x1)) &&& 15) - (f 7 (ix x1))) &&& 15))) 6 (ix x1))) 9 (ix x1) 0) else (up2 (up2 (up2 (kX3_addToSum (kX3_addToSum f (kX3_rightOf f x1) (((((f 5 (ix x1)) &&& 15) - (f 7 (ix x1))) &&& 15) + (-16))) (kX3_leftOf (kX3_addToSum f (kX3_rightOf f x1) (((((f 5 (ix x1)) &&& 15) - (f 7 (ix x1))) &&& 15) + (-16))) x1) (-(((((f 5 (ix x1)) &&& 15) - (f 7 (ix x1))) &&& 15) + (-16)))) 7 (ix x1) ((f 5 (ix x1)) &&& 15)) 8 (ix x1) ((kX3_addToSum (kX3_addToSum f (kX3_rightOf f x1) (((((f 5 (ix x1)) &&& 15) - (f 7 (ix x1))) &&& 15) + (-16))) (kX3_leftOf (kX3_addToSum f (kX3_rightOf f x1) (((((f 5 (ix x1)) &&& 15) - (f 7 (ix x1))) &&& 15) + (-16))) x1) (-(((((f 5 (ix x1)) &&& 15) - (f 7 (ix x1))) &&& 15) + (-16)))) 6 (ix x1))) 9 (ix x1) 0))
def kX3_hear_2 (x1 : Int32) : Nat → Nat → (Nat → Nat → Int32) → (Nat → Nat → Int32)
  | 0, i, f => f
  | n + 1, i, f => (if (kX3_heads f) ≤ (nI i) then f else (if ((x1 >>> ((nI i) &&& 31)) &&& 1) = 0 then kX3_hear_2 x1 n (i + 1) (kX3_receive f (nI i)) else (if 99 ≤ (f 9 (ix (nI i))) then kX3_hear_2 x1 n (i + 1) f else kX3_hear_2 x1 n (i + 1) (up2 f 9 (ix (nI i)) ((f 9 (ix (nI i))) + 1)))))
def kX3_hear (f : Nat → Nat → Int32) (x1 : Int32) : (Nat → Nat → Int32) := kX3_hear_2 x1 8 0 f
def kX3_judgeSweep (f : Nat → Nat → Int32) (x1 : Int32) : (Nat → Nat → Int32) := (if (f 11 (ix x1)) ≤ 0 then (if (f 13 (ix x1)) = 1 then (up2 f 12 (ix x1) 0) else f) else (up2 f 13 (ix x1) 1))
def kX3_judge (f : Nat → Nat → Int32) (x1 : Int32) : (Nat → Nat → Int32) := (if (kX3_hasTrouble f x1) = 0 then (if (f 12 (ix x1)) = 3 then (kX3_judgeSweep f x1) else (if (f 12 (ix x1)) = 2 then f else (if (f 11 (ix x1)) ≤ 0 then (up2 f 12 (ix x1) 0) else (up2 f 12 (ix x1) 1)))) else (up2 f 12 (ix x1) 2))
def kX3_heal (f : Nat → Nat → Int32) (x1 x2 x3 : Int32) : (Nat → Nat → Int32) := (up2 (up2 (up2 (up2 (up2 f 11 (ix x2) 0) 11 (ix x3) 0) 12 (ix x2) 0) 12 (ix x3) 0) 10 (ix x1) 0)
def kX3_judgeJoint (f : Nat → Nat → Int32) (x1 x2 x3 : Int32) : (Nat → Nat → Int32) := (if (f 12 (ix x2)) = 2 then (if (kX3_joint f x1) ≤ 0 then (if (kX3_canHeal f x1 x2 x3) = 0 then f else (kX3_heal f x1 x2 x3)) else (up2 f 10 (ix x1) 1)) else (if (f 12 (ix x3)) = 2 then (if (kX3_joint f x1) ≤ 0 then (if (kX3_canHeal f x1 x2 x3) = 0 then f else (kX3_heal f x1 x2 x3)) else (up2 f 10 (ix x1) 1)) else (up2 f 10 (ix x1) 0)))
def kX3_awaitSweep (f : Nat → Nat → Int32) (x1 : Int32) : (Nat → Nat → Int32) := (up2 (up2 (up2 f 11 (ix x1) 0) 12 (ix x1) 3) 13 (ix x1) 0)
def kX3_pass_28 (x1 : Int32) : Nat → Nat → (Nat → Nat → Int32) → (Nat → Nat → Int32)
  | 0, i, f => f
  | n + 1, i, f => (if (kX3_heads f) ≤ (nI i) then (if 9999 ≤ (f 2 0) then f else (up2 f 2 0 ((f 2 0) + 1))) else (if (kX3_joins f (nI i)) = 0 then kX3_pass_28 x1 n (i + 1) f else kX3_pass_28 x1 n (i + 1) (kX3_judgeJoint f (nI i) (kX3_leftOf f (nI i)) (kX3_rightOf f (nI i)))))
def kX3_pass_7 (x1 : Int32) : Nat → Nat → (Nat → Nat → Int32) → (Nat → Nat → Int32)
  | 0, i, f => f
  | n + 1, i, f => (if (f 0 0) ≤ (nI i) then kX3_pass_28 x1 8 0 f else kX3_pass_7 x1 n (i + 1) (kX3_judge f (nI i)))
def kX3_pass (f : Nat → Nat → Int32) (x1 : Int32) : (Nat → Nat → Int32) := kX3_pass_7 x1 7 0 (kX3_hear f x1)
end
section
/-! what the Line's own numbers are bounded by -/
abbrev okL (f : Nat → Nat → Int32) : Prop := 0 < f 0 0 ∧ f 0 0 ≤ 6
theorem i0 : (0 : Int32).toInt = 0 := by decide
theorem i6 : (6 : Int32).toInt = 6 := by decide
theorem i1 : (1 : Int32).toInt = 1 := by decide
theorem il_lt {N : Int32} {B i : Nat} (hN : N ≤ nI B) (hB : B < 2 ^ 31) (hi : i ≤ B) (c : ¬ (N ≤ nI i)) : i < B := by
  rcases Nat.lt_or_ge i B with h | h
  · exact h
  · have e : i = B := by omega
    subst e
    exact absurd hN c
theorem il_gt {i : Nat} (hi : i ≤ 10) (c : ¬ (9 < nI i)) : i < 10 := by
  rcases Nat.lt_or_ge i 10 with h | h
  · exact h
  · have e : i = 10 := by omega
    subst e
    exact absurd (by decide) c
theorem sw_out {x : Int32} (n : Nat) (h : ∀ j, j ≤ n → ¬ x = nI j) : x.toInt < 0 ∨ (n : Int) < x.toInt := by
  by_cases h0 : x.toInt < 0
  · exact Or.inl h0
  · right
    by_cases h1 : (n : Int) < x.toInt
    · exact h1
    · exfalso
      have hx := Int32.toInt_lt x
      refine h x.toInt.toNat (by omega) (Int32.toInt_inj.mp ?_)
      rw [nI_toInt (by omega)]
      omega
theorem in67 {x : Int32} (h : vp_in x 6) : vp_in x 7 := by
  rw [vp_in_iff] at h ⊢
  omega
theorem okL_j {f : Nat → Nat → Int32} (hok : okL f) : ∃ j, 1 ≤ j ∧ j ≤ 6 ∧ f 0 0 = nI j := by
  obtain ⟨h1, h2⟩ := hok
  rw [Int32.lt_iff_toInt_lt, i0] at h1
  rw [Int32.le_iff_toInt_le, i6] at h2
  obtain ⟨j, hj, e⟩ := vp_in_of (x := f 0 0) (n := 7) (vp_in_iff.mpr ⟨by omega, by omega⟩) (by decide)
  refine ⟨j, ?_, by omega, e⟩
  rw [e, nI_toInt (by omega)] at h1
  omega
theorem hs_in {f : Nat → Nat → Int32} {x : Int32} (hok : okL f) (c : ¬ (kX3_hasSection f x = 0)) : vp_in x 6 := by
  unfold kX3_hasSection at c
  rw [vp_in_iff]
  by_cases h1 : x < 0
  · rw [if_pos h1] at c
    exact absurd rfl c
  · rw [if_neg h1] at c
    by_cases h2 : f 0 0 ≤ x
    · rw [if_pos h2] at c
      exact absurd rfl c
    · have h3 := hok.2
      rw [Int32.lt_iff_toInt_lt, i0] at h1
      rw [Int32.le_iff_toInt_le] at h2 h3
      rw [i6] at h3
      omega
theorem heads_le {f : Nat → Nat → Int32} (hok : okL f) : kX3_heads f ≤ nI 7 := by
  obtain ⟨j, h1, h2, e⟩ := okL_j hok
  unfold kX3_heads
  rw [e]
  split
  · rw [nI_1]
    exact nI_le (by omega) (by decide)
  · exact nI_le (by omega) (by decide)
theorem rh_in {f : Nat → Nat → Int32} {x : Int32} (h : vp_in x 6) : vp_in (kX3_rightHead f x) 7 := by
  obtain ⟨j, hj, e⟩ := vp_in_of h (by decide)
  have h1 : vp_in (x + 1) 7 := by
    rw [e, nI_1]
    exact vp_in_nI (by omega) (by decide)
  unfold kX3_rightHead
  split
  · exact h1
  · split
    · exact vp_in_nI (n := 0) (by decide) (by decide)
    · exact h1
theorem joins_in {f : Nat → Nat → Int32} {x : Int32} (hok : okL f) (c : ¬ (kX3_joins f x = 0)) : vp_in (kX3_leftOf f x) 6 ∧ vp_in (kX3_rightOf f x) 6 := by
  unfold kX3_joins at c
  by_cases h1 : kX3_hasSection f (kX3_leftOf f x) = 0
  · rw [if_pos h1] at c
    exact absurd rfl c
  · rw [if_neg h1] at c
    by_cases h2 : kX3_hasSection f (kX3_rightOf f x) = 0
    · rw [if_pos h2] at c
      exact absurd rfl c
    · exact ⟨hs_in hok h1, hs_in hok h2⟩
theorem ok_add {f : Nat → Nat → Int32} {x y : Int32} (hok : okL f) : okL (kX3_addToSum f x y) := by
  unfold kX3_addToSum
  split
  · exact hok
  · exact hok
theorem ok_receive {f : Nat → Nat → Int32} {x : Int32} (hok : okL f) : okL (kX3_receive f x) := by
  unfold kX3_receive
  split
  · exact ok_add (ok_add hok)
  · exact ok_add (ok_add hok)
theorem ok_hear2 {x : Int32} : ∀ (n i : Nat) (f : Nat → Nat → Int32), okL f → okL (kX3_hear_2 x n i f) := by
  intro n
  induction n with
  | zero => exact fun i f h => h
  | succ n ih =>
    intro i f h
    unfold kX3_hear_2
    split
    · exact h
    · split
      · exact ih _ _ (ok_receive h)
      · split
        · exact ih _ _ h
        · exact ih _ _ h
theorem ok_hear {f : Nat → Nat → Int32} {x : Int32} (hok : okL f) : okL (kX3_hear f x) := ok_hear2 _ _ _ hok
theorem ok_judge {f : Nat → Nat → Int32} {x : Int32} (hok : okL f) : okL (kX3_judge f x) := by
  unfold kX3_judge kX3_judgeSweep
  repeat' split
  all_goals exact hok
theorem ok_judgeJoint {f : Nat → Nat → Int32} {x y z : Int32} (hok : okL f) : okL (kX3_judgeJoint f x y z) := by
  unfold kX3_judgeJoint kX3_heal
  repeat' split
  all_goals exact hok
theorem ok_pass28 {x : Int32} : ∀ (n i : Nat) (f : Nat → Nat → Int32), okL f → okL (kX3_pass_28 x n i f) := by
  intro n
  induction n with
  | zero => exact fun i f h => h
  | succ n ih =>
    intro i f h
    unfold kX3_pass_28
    split
    · split
      · exact h
      · exact h
    · split
      · exact ih _ _ h
      · exact ih _ _ (ok_judgeJoint h)
theorem ok_pass7 {x : Int32} : ∀ (n i : Nat) (f : Nat → Nat → Int32), okL f → okL (kX3_pass_7 x n i f) := by
  intro n
  induction n with
  | zero => exact fun i f h => h
  | succ n ih =>
    intro i f h
    unfold kX3_pass_7
    split
    · exact ok_pass28 _ _ _ h
    · exact ih _ _ (ok_judge h)
theorem ok_pass {f : Nat → Nat → Int32} {x : Int32} (hok : okL f) : okL (kX3_pass f x) := ok_pass7 _ _ _ (ok_hear hok)
end
section
theorem ndX3_heads : yX3_heads.cls = RX3 ∧ yX3_heads.cls ≠ "java/lang/invoke/MethodHandle" ∧ yX3_heads.cls ≠ "java/lang/invoke/VarHandle" ∧ (parseMethodDescriptor yX3_heads.desc).map (fun d => d.parameters.length) = some 0 := by decide +kernel
set_option maxHeartbeats 4000000 in
set_option maxRecDepth 100000 in
theorem okX3_heads (l : Launch) (D : va_G) (cI cZ cQ : ClassId) (h : Nat) (a : Nat → Nat) (X : va_W) (f : Nat → Nat → Int32) : Met l yX3_heads wsX3_heads ({ frames := 0, cells := 0, slots := 0, locals := 0 }) (PR [.ref h] D (TY cI cZ cQ) (LW cI h a f ++ X)) (QR (kX3_heads f)) 0 0 (fun _ => False) := by
  refine m_rd (cc := cX3_heads) (maxL := 1) (ret := (some .int)) (by decide) rfl (Nat.le_of_ble_eq_true rfl) (lv0 := [(0, .ref h)]) rfl ?_
  intro p e s m below meth c ls S hr hlk hP hK hl
  have S : CallFix p m c cX3_heads 1 s ([.ref h] : List Value).toArray wsX3_heads RX3 := S
  have hx := S.1
  have hb := S.2.1
  have hown : s.vm.findClass RX3 = some m.cls := S.2.2.2.1
  have hts := S.2.2.2.2
  have hinX3 : ∀ w ∈ wsX30, w ∈ wsX3_heads := by decide +kernel
  refine lv_aload_n hx hb dX3_heads_0 rfl (lv_at hl 0 rfl) ?_
  refine va_get (v := .int (f 1 0)) (C := RX3) (T := TX3) (N := 15) (ci := 3) hx hb hts hinX3 hown hK hP 0 rfl rfl 1 (by decide) (hts (.fieldLink RX3 52 "AxleKeeper$Line" "ring" "Z") (by decide +kernel)) (fun _ h9 => h9) rfl dX3_heads_1 ?_
  refine lv_if_eq (tgt := 14) hx hb dX3_heads_4 (by decide) (fun c_4 => ?_) (fun c_4 => ?_)
  · have c_4 : (f 1 0) = 0 := c_4
    refine lv_aload_n hx hb dX3_heads_14 rfl (lv_at hl 0 rfl) ?_
    refine va_get (v := .int (f 0 0)) (C := RX3) (T := TX3) (N := 15) (ci := 3) hx hb hts hinX3 hown hK hP 0 rfl rfl 0 (by decide) (hts (.fieldLink RX3 48 "AxleKeeper$Line" "sections" "I") (by decide +kernel)) (fun _ h9 => h9) rfl dX3_heads_15 ?_
    refine lv_iconst (v := 1) hx hb dX3_heads_18 (by decide) ?_
    refine lv_iadd hx hb dX3_heads_19 ?_
    have hρ : kX3_heads f = ((f 0 0) + 1) := (if_pos c_4)
    exact e_rd hx hb hr hlk dX3_heads_20 hρ.symm
  have c_4 : ¬ ((f 1 0) = 0) := c_4
  refine lv_aload_n hx hb dX3_heads_7 rfl (lv_at hl 0 rfl) ?_
  refine va_get (v := .int (f 0 0)) (C := RX3) (T := TX3) (N := 15) (ci := 3) hx hb hts hinX3 hown hK hP 0 rfl rfl 0 (by decide) (hts (.fieldLink RX3 48 "AxleKeeper$Line" "sections" "I") (by decide +kernel)) (fun _ h9 => h9) rfl dX3_heads_8 ?_
  refine lv_goto (tgt := 20) hx hb dX3_heads_11 (by decide) ?_
  have hρ : kX3_heads f = (f 0 0) := (if_neg c_4)
  exact e_rd hx hb hr hlk dX3_heads_20 hρ.symm
theorem ndX3_hasSection : yX3_hasSection.cls = RX3 ∧ yX3_hasSection.cls ≠ "java/lang/invoke/MethodHandle" ∧ yX3_hasSection.cls ≠ "java/lang/invoke/VarHandle" ∧ (parseMethodDescriptor yX3_hasSection.desc).map (fun d => d.parameters.length) = some 1 := by decide +kernel
set_option maxHeartbeats 4000000 in
set_option maxRecDepth 100000 in
theorem okX3_hasSection (l : Launch) (D : va_G) (cI cZ cQ : ClassId) (h : Nat) (a : Nat → Nat) (X : va_W) (f : Nat → Nat → Int32) (x1 : Int32) : Met l yX3_hasSection wsX3_hasSection ({ frames := 0, cells := 0, slots := 0, locals := 0 }) (PR [.ref h, .int x1] D (TY cI cZ cQ) (LW cI h a f ++ X)) (QR (kX3_hasSection f x1)) 0 0 (fun _ => False) := by
  refine m_rd (cc := cX3_hasSection) (maxL := 2) (ret := (some .boolean)) (by decide) rfl (Nat.le_of_ble_eq_true rfl) (lv0 := [(0, .ref h), (1, .int x1)]) rfl ?_
  intro p e s m below meth c ls S hr hlk hP hK hl
  have S : CallFix p m c cX3_hasSection 2 s ([.ref h, .int x1] : List Value).toArray wsX3_hasSection RX3 := S
  have hx := S.1
  have hb := S.2.1
  have hown : s.vm.findClass RX3 = some m.cls := S.2.2.2.1
  have hts := S.2.2.2.2
  have hinX3 : ∀ w ∈ wsX30, w ∈ wsX3_hasSection := by decide +kernel
  refine lv_iload_n hx hb dX3_hasSection_0 rfl (lv_at hl 1 rfl) ?_
  refine lv_if_lt (tgt := 16) hx hb dX3_hasSection_1 (by decide) (fun c_1 => ?_) (fun c_1 => ?_)
  · have c_1 : x1 < 0 := c_1
    refine lv_iconst (v := 0) hx hb dX3_hasSection_16 (by decide) ?_
    have hρ : kX3_hasSection f x1 = 0 := (if_pos c_1)
    exact e_rz hx hb hr hlk dX3_hasSection_17 rfl hρ.symm
  have c_1 : ¬ (x1 < 0) := c_1
  refine lv_iload_n hx hb dX3_hasSection_4 rfl (lv_at hl 1 rfl) ?_
  refine lv_aload_n hx hb dX3_hasSection_5 rfl (lv_at hl 0 rfl) ?_
  refine va_get (v := .int (f 0 0)) (C := RX3) (T := TX3) (N := 15) (ci := 3) hx hb hts hinX3 hown hK hP 0 rfl rfl 0 (by decide) (hts (.fieldLink RX3 48 "AxleKeeper$Line" "sections" "I") (by decide +kernel)) (fun _ h9 => h9) rfl dX3_hasSection_6 ?_
  refine lv_icmp_ge (tgt := 16) hx hb dX3_hasSection_9 (by decide) (fun c_9 => ?_) (fun c_9 => ?_)
  · have c_9 : (f 0 0) ≤ x1 := c_9
    refine lv_iconst (v := 0) hx hb dX3_hasSection_16 (by decide) ?_
    have hρ : kX3_hasSection f x1 = 0 := (if_neg c_1).trans ((if_pos c_9))
    exact e_rz hx hb hr hlk dX3_hasSection_17 rfl hρ.symm
  have c_9 : ¬ ((f 0 0) ≤ x1) := c_9
  refine lv_iconst (v := 1) hx hb dX3_hasSection_12 (by decide) ?_
  refine lv_goto (tgt := 17) hx hb dX3_hasSection_13 (by decide) ?_
  have hρ : kX3_hasSection f x1 = 1 := (if_neg c_1).trans ((if_neg c_9))
  exact e_rz hx hb hr hlk dX3_hasSection_17 rfl hρ.symm
theorem ndX3_hasHead : yX3_hasHead.cls = RX3 ∧ yX3_hasHead.cls ≠ "java/lang/invoke/MethodHandle" ∧ yX3_hasHead.cls ≠ "java/lang/invoke/VarHandle" ∧ (parseMethodDescriptor yX3_hasHead.desc).map (fun d => d.parameters.length) = some 1 := by decide +kernel
set_option maxHeartbeats 4000000 in
set_option maxRecDepth 100000 in
theorem okX3_hasHead (l : Launch) (D : va_G) (cI cZ cQ : ClassId) (h : Nat) (a : Nat → Nat) (X : va_W) (f : Nat → Nat → Int32) (x1 : Int32) : Met l yX3_hasHead wsX3_hasHead ({ frames := 1, cells := 0, slots := 0, locals := 20 }) (PR [.ref h, .int x1] D (TY cI cZ cQ) (LW cI h a f ++ X)) (QR (kX3_hasHead f x1)) 0 0 (fun _ => False) := by
  refine m_rd (cc := cX3_hasHead) (maxL := 2) (ret := (some .boolean)) (by decide) rfl (Nat.le_of_ble_eq_true rfl) (lv0 := [(0, .ref h), (1, .int x1)]) rfl ?_
  intro p e s m below meth c ls S hr hlk hP hK hl
  have S : CallFix p m c cX3_hasHead 2 s ([.ref h, .int x1] : List Value).toArray wsX3_hasHead RX3 := S
  have hx := S.1
  have hb := S.2.1
  have hown : s.vm.findClass RX3 = some m.cls := S.2.2.2.1
  have hts := S.2.2.2.2
  refine lv_iload_n hx hb dX3_hasHead_0 rfl (lv_at hl 1 rfl) ?_
  refine lv_if_lt (tgt := 16) hx hb dX3_hasHead_1 (by decide) (fun c_1 => ?_) (fun c_1 => ?_)
  · have c_1 : x1 < 0 := c_1
    refine lv_iconst (v := 0) hx hb dX3_hasHead_16 (by decide) ?_
    have hρ : kX3_hasHead f x1 = 0 := (if_pos c_1)
    exact e_rz hx hb hr hlk dX3_hasHead_17 rfl hρ.symm
  have c_1 : ¬ (x1 < 0) := c_1
  refine lv_iload_n hx hb dX3_hasHead_4 rfl (lv_at hl 1 rfl) ?_
  refine lv_aload_n hx hb dX3_hasHead_5 rfl (lv_at hl 0 rfl) ?_
  refine k_rd (As := []) (rest := [.int x1]) (bytes := cX3_heads) (C := RX3) S (okX3_heads l D cI cZ cQ h a X f ) gX3_hasHead_X3_heads rfl ⟨rfl, rfl⟩ ndX3_heads ⟨Nat.le_of_ble_eq_true rfl, Nat.le_of_ble_eq_true rfl⟩ hK hP 0 rfl rfl rfl hl rfl (Nat.le_of_ble_eq_true rfl) dX3_hasHead_6 ⟨Nat.zero_le _, Nat.zero_le _⟩ ?_
  refine lv_icmp_ge (tgt := 16) hx hb dX3_hasHead_9 (by decide) (fun c_9 => ?_) (fun c_9 => ?_)
  · have c_9 : (kX3_heads f) ≤ x1 := c_9
    refine lv_iconst (v := 0) hx hb dX3_hasHead_16 (by decide) ?_
    have hρ : kX3_hasHead f x1 = 0 := (if_neg c_1).trans ((if_pos c_9))
    exact e_rz hx hb hr hlk dX3_hasHead_17 rfl hρ.symm
  have c_9 : ¬ ((kX3_heads f) ≤ x1) := c_9
  refine lv_iconst (v := 1) hx hb dX3_hasHead_12 (by decide) ?_
  refine lv_goto (tgt := 17) hx hb dX3_hasHead_13 (by decide) ?_
  have hρ : kX3_hasHead f x1 = 1 := (if_neg c_1).trans ((if_neg c_9))
  exact e_rz hx hb hr hlk dX3_hasHead_17 rfl hρ.symm
theorem ndX3_hasHeads : yX3_hasHeads.cls = RX3 ∧ yX3_hasHeads.cls ≠ "java/lang/invoke/MethodHandle" ∧ yX3_hasHeads.cls ≠ "java/lang/invoke/VarHandle" ∧ (parseMethodDescriptor yX3_hasHeads.desc).map (fun d => d.parameters.length) = some 1 := by decide +kernel
set_option maxHeartbeats 4000000 in
set_option maxRecDepth 100000 in
theorem okX3_hasHeads (l : Launch) (D : va_G) (cI cZ cQ : ClassId) (h : Nat) (a : Nat → Nat) (X : va_W) (f : Nat → Nat → Int32) (x1 : Int32) : Met l yX3_hasHeads wsX3_hasHeads ({ frames := 1, cells := 0, slots := 0, locals := 20 }) (PR [.ref h, .int x1] D (TY cI cZ cQ) (LW cI h a f ++ X)) (QR (kX3_hasHeads f x1)) 0 0 (fun _ => False) := by
  refine m_rd (cc := cX3_hasHeads) (maxL := 2) (ret := (some .boolean)) (by decide) rfl (Nat.le_of_ble_eq_true rfl) (lv0 := [(0, .ref h), (1, .int x1)]) rfl ?_
  intro p e s m below meth c ls S hr hlk hP hK hl
  have S : CallFix p m c cX3_hasHeads 2 s ([.ref h, .int x1] : List Value).toArray wsX3_hasHeads RX3 := S
  have hx := S.1
  have hb := S.2.1
  have hown : s.vm.findClass RX3 = some m.cls := S.2.2.2.1
  have hts := S.2.2.2.2
  refine lv_iload_n hx hb dX3_hasHeads_0 rfl (lv_at hl 1 rfl) ?_
  refine lv_aload_n hx hb dX3_hasHeads_1 rfl (lv_at hl 0 rfl) ?_
  refine k_rd (As := []) (rest := [.int x1]) (bytes := cX3_heads) (C := RX3) S (okX3_heads l D cI cZ cQ h a X f ) gX3_hasHeads_X3_heads rfl ⟨rfl, rfl⟩ ndX3_heads ⟨Nat.le_of_ble_eq_true rfl, Nat.le_of_ble_eq_true rfl⟩ hK hP 0 rfl rfl rfl hl rfl (Nat.le_of_ble_eq_true rfl) dX3_hasHeads_2 ⟨Nat.zero_le _, Nat.zero_le _⟩ ?_
  refine lv_iushr hx hb dX3_hasHeads_5 rfl ?_
  refine lv_if_ne (tgt := 13) hx hb dX3_hasHeads_6 (by decide) (fun c_6 => ?_) (fun c_6 => ?_)
  · have c_6 : ¬ (((x1).toUInt32 >>> (((kX3_heads f)).toUInt32 &&& Int32.toUInt32 31)).toInt32 = 0) := c_6
    refine lv_iconst (v := 0) hx hb dX3_hasHeads_13 (by decide) ?_
    have hρ : kX3_hasHeads f x1 = 0 := (if_neg c_6)
    exact e_rz hx hb hr hlk dX3_hasHeads_14 rfl hρ.symm
  have c_6 : ((x1).toUInt32 >>> (((kX3_heads f)).toUInt32 &&& Int32.toUInt32 31)).toInt32 = 0 := c_6
  refine lv_iconst (v := 1) hx hb dX3_hasHeads_9 (by decide) ?_
  refine lv_goto (tgt := 14) hx hb dX3_hasHeads_10 (by decide) ?_
  have hρ : kX3_hasHeads f x1 = 1 := (if_pos c_6)
  exact e_rz hx hb hr hlk dX3_hasHeads_14 rfl hρ.symm
theorem ndX3_leftOf : yX3_leftOf.cls = RX3 ∧ yX3_leftOf.cls ≠ "java/lang/invoke/MethodHandle" ∧ yX3_leftOf.cls ≠ "java/lang/invoke/VarHandle" ∧ (parseMethodDescriptor yX3_leftOf.desc).map (fun d => d.parameters.length) = some 1 := by decide +kernel
set_option maxHeartbeats 4000000 in
set_option maxRecDepth 100000 in
theorem okX3_leftOf (l : Launch) (D : va_G) (cI cZ cQ : ClassId) (h : Nat) (a : Nat → Nat) (X : va_W) (f : Nat → Nat → Int32) (x1 : Int32) : Met l yX3_leftOf wsX3_leftOf ({ frames := 0, cells := 0, slots := 0, locals := 0 }) (PR [.ref h, .int x1] D (TY cI cZ cQ) (LW cI h a f ++ X)) (QR (kX3_leftOf f x1)) 0 0 (fun _ => False) := by
  refine m_rd (cc := cX3_leftOf) (maxL := 2) (ret := (some .int)) (by decide) rfl (Nat.le_of_ble_eq_true rfl) (lv0 := [(0, .ref h), (1, .int x1)]) rfl ?_
  intro p e s m below meth c ls S hr hlk hP hK hl
  have S : CallFix p m c cX3_leftOf 2 s ([.ref h, .int x1] : List Value).toArray wsX3_leftOf RX3 := S
  have hx := S.1
  have hb := S.2.1
  have hown : s.vm.findClass RX3 = some m.cls := S.2.2.2.1
  have hts := S.2.2.2.2
  have hinX3 : ∀ w ∈ wsX30, w ∈ wsX3_leftOf := by decide +kernel
  refine lv_iload_n hx hb dX3_leftOf_0 rfl (lv_at hl 1 rfl) ?_
  refine lv_if_le (tgt := 8) hx hb dX3_leftOf_1 (by decide) (fun c_1 => ?_) (fun c_1 => ?_)
  · have c_1 : x1 ≤ 0 := c_1
    refine lv_aload_n hx hb dX3_leftOf_8 rfl (lv_at hl 0 rfl) ?_
    refine va_get (v := .int (f 1 0)) (C := RX3) (T := TX3) (N := 15) (ci := 3) hx hb hts hinX3 hown hK hP 0 rfl rfl 1 (by decide) (hts (.fieldLink RX3 52 "AxleKeeper$Line" "ring" "Z") (by decide +kernel)) (fun _ h9 => h9) rfl dX3_leftOf_9 ?_
    refine lv_if_eq (tgt := 24) hx hb dX3_leftOf_12 (by decide) (fun c_12 => ?_) (fun c_12 => ?_)
    · have c_12 : (f 1 0) = 0 := c_12
      refine lv_iconst (v := (-1)) hx hb dX3_leftOf_24 (by decide) ?_
      have hρ : kX3_leftOf f x1 = (-1) := (if_pos c_1).trans ((if_pos c_12))
      exact e_rd hx hb hr hlk dX3_leftOf_25 hρ.symm
    have c_12 : ¬ ((f 1 0) = 0) := c_12
    refine lv_aload_n hx hb dX3_leftOf_15 rfl (lv_at hl 0 rfl) ?_
    refine va_get (v := .int (f 0 0)) (C := RX3) (T := TX3) (N := 15) (ci := 3) hx hb hts hinX3 hown hK hP 0 rfl rfl 0 (by decide) (hts (.fieldLink RX3 48 "AxleKeeper$Line" "sections" "I") (by decide +kernel)) (fun _ h9 => h9) rfl dX3_leftOf_16 ?_
    refine lv_iconst (v := 1) hx hb dX3_leftOf_19 (by decide) ?_
    refine lv_isub hx hb dX3_leftOf_20 ?_
    refine lv_goto (tgt := 25) hx hb dX3_leftOf_21 (by decide) ?_
    have hρ : kX3_leftOf f x1 = ((f 0 0) - 1) := (if_pos c_1).trans ((if_neg c_12))
    exact e_rd hx hb hr hlk dX3_leftOf_25 hρ.symm
  have c_1 : ¬ (x1 ≤ 0) := c_1
  refine lv_iload_n hx hb dX3_leftOf_4 rfl (lv_at hl 1 rfl) ?_
  refine lv_iconst (v := 1) hx hb dX3_leftOf_5 (by decide) ?_
  refine lv_isub hx hb dX3_leftOf_6 ?_
  have hρ : kX3_leftOf f x1 = (x1 - 1) := (if_neg c_1)
  exact e_rd hx hb hr hlk dX3_leftOf_7 hρ.symm
theorem ndX3_rightOf : yX3_rightOf.cls = RX3 ∧ yX3_rightOf.cls ≠ "java/lang/invoke/MethodHandle" ∧ yX3_rightOf.cls ≠ "java/lang/invoke/VarHandle" ∧ (parseMethodDescriptor yX3_rightOf.desc).map (fun d => d.parameters.length) = some 1 := by decide +kernel
set_option maxHeartbeats 4000000 in
set_option maxRecDepth 100000 in
theorem okX3_rightOf (l : Launch) (D : va_G) (cI cZ cQ : ClassId) (h : Nat) (a : Nat → Nat) (X : va_W) (f : Nat → Nat → Int32) (x1 : Int32) : Met l yX3_rightOf wsX3_rightOf ({ frames := 0, cells := 0, slots := 0, locals := 0 }) (PR [.ref h, .int x1] D (TY cI cZ cQ) (LW cI h a f ++ X)) (QR (kX3_rightOf f x1)) 0 0 (fun _ => False) := by
  refine m_rd (cc := cX3_rightOf) (maxL := 2) (ret := (some .int)) (by decide) rfl (Nat.le_of_ble_eq_true rfl) (lv0 := [(0, .ref h), (1, .int x1)]) rfl ?_
  intro p e s m below meth c ls S hr hlk hP hK hl
  have S : CallFix p m c cX3_rightOf 2 s ([.ref h, .int x1] : List Value).toArray wsX3_rightOf RX3 := S
  have hx := S.1
  have hb := S.2.1
  have hown : s.vm.findClass RX3 = some m.cls := S.2.2.2.1
  have hts := S.2.2.2.2
  have hinX3 : ∀ w ∈ wsX30, w ∈ wsX3_rightOf := by decide +kernel
  refine lv_iload_n hx hb dX3_rightOf_0 rfl (lv_at hl 1 rfl) ?_
  refine lv_aload_n hx hb dX3_rightOf_1 rfl (lv_at hl 0 rfl) ?_
  refine va_get (v := .int (f 0 0)) (C := RX3) (T := TX3) (N := 15) (ci := 3) hx hb hts hinX3 hown hK hP 0 rfl rfl 0 (by decide) (hts (.fieldLink RX3 48 "AxleKeeper$Line" "sections" "I") (by decide +kernel)) (fun _ h9 => h9) rfl dX3_rightOf_2 ?_
  refine lv_icmp_ge (tgt := 12) hx hb dX3_rightOf_5 (by decide) (fun c_5 => ?_) (fun c_5 => ?_)
  · have c_5 : (f 0 0) ≤ x1 := c_5
    refine lv_iconst (v := (-1)) hx hb dX3_rightOf_12 (by decide) ?_
    have hρ : kX3_rightOf f x1 = (-1) := (if_pos c_5)
    exact e_rd hx hb hr hlk dX3_rightOf_13 hρ.symm
  have c_5 : ¬ ((f 0 0) ≤ x1) := c_5
  refine lv_iload_n hx hb dX3_rightOf_8 rfl (lv_at hl 1 rfl) ?_
  refine lv_goto (tgt := 13) hx hb dX3_rightOf_9 (by decide) ?_
  have hρ : kX3_rightOf f x1 = x1 := (if_neg c_5)
  exact e_rd hx hb hr hlk dX3_rightOf_13 hρ.symm
theorem ndX3_rightHead : yX3_rightHead.cls = RX3 ∧ yX3_rightHead.cls ≠ "java/lang/invoke/MethodHandle" ∧ yX3_rightHead.cls ≠ "java/lang/invoke/VarHandle" ∧ (parseMethodDescriptor yX3_rightHead.desc).map (fun d => d.parameters.length) = some 1 := by decide +kernel
set_option maxHeartbeats 4000000 in
set_option maxRecDepth 100000 in
theorem okX3_rightHead (l : Launch) (D : va_G) (cI cZ cQ : ClassId) (h : Nat) (a : Nat → Nat) (X : va_W) (f : Nat → Nat → Int32) (x1 : Int32) : Met l yX3_rightHead wsX3_rightHead ({ frames := 0, cells := 0, slots := 0, locals := 0 }) (PR [.ref h, .int x1] D (TY cI cZ cQ) (LW cI h a f ++ X)) (QR (kX3_rightHead f x1)) 0 0 (fun _ => False) := by
  refine m_rd (cc := cX3_rightHead) (maxL := 2) (ret := (some .int)) (by decide) rfl (Nat.le_of_ble_eq_true rfl) (lv0 := [(0, .ref h), (1, .int x1)]) rfl ?_
  intro p e s m below meth c ls S hr hlk hP hK hl
  have S : CallFix p m c cX3_rightHead 2 s ([.ref h, .int x1] : List Value).toArray wsX3_rightHead RX3 := S
  have hx := S.1
  have hb := S.2.1
  have hown : s.vm.findClass RX3 = some m.cls := S.2.2.2.1
  have hts := S.2.2.2.2
  have hinX3 : ∀ w ∈ wsX30, w ∈ wsX3_rightHead := by decide +kernel
  refine lv_aload_n hx hb dX3_rightHead_0 rfl (lv_at hl 0 rfl) ?_
  refine va_get (v := .int (f 1 0)) (C := RX3) (T := TX3) (N := 15) (ci := 3) hx hb hts hinX3 hown hK hP 0 rfl rfl 1 (by decide) (hts (.fieldLink RX3 52 "AxleKeeper$Line" "ring" "Z") (by decide +kernel)) (fun _ h9 => h9) rfl dX3_rightHead_1 ?_
  refine lv_if_eq (tgt := 21) hx hb dX3_rightHead_4 (by decide) (fun c_4 => ?_) (fun c_4 => ?_)
  · have c_4 : (f 1 0) = 0 := c_4
    refine lv_iload_n hx hb dX3_rightHead_21 rfl (lv_at hl 1 rfl) ?_
    refine lv_iconst (v := 1) hx hb dX3_rightHead_22 (by decide) ?_
    refine lv_iadd hx hb dX3_rightHead_23 ?_
    have hρ : kX3_rightHead f x1 = (x1 + 1) := (if_pos c_4)
    exact e_rd hx hb hr hlk dX3_rightHead_24 hρ.symm
  have c_4 : ¬ ((f 1 0) = 0) := c_4
  refine lv_iload_n hx hb dX3_rightHead_7 rfl (lv_at hl 1 rfl) ?_
  refine lv_iconst (v := 1) hx hb dX3_rightHead_8 (by decide) ?_
  refine lv_iadd hx hb dX3_rightHead_9 ?_
  refine lv_aload_n hx hb dX3_rightHead_10 rfl (lv_at hl 0 rfl) ?_
  refine va_get (v := .int (f 0 0)) (C := RX3) (T := TX3) (N := 15) (ci := 3) hx hb hts hinX3 hown hK hP 0 rfl rfl 0 (by decide) (hts (.fieldLink RX3 48 "AxleKeeper$Line" "sections" "I") (by decide +kernel)) (fun _ h9 => h9) rfl dX3_rightHead_11 ?_
  refine lv_icmp_ne (tgt := 21) hx hb dX3_rightHead_14 (by decide) (fun c_14 => ?_) (fun c_14 => ?_)
  · have c_14 : ¬ ((x1 + 1) = (f 0 0)) := c_14
    refine lv_iload_n hx hb dX3_rightHead_21 rfl (lv_at hl 1 rfl) ?_
    refine lv_iconst (v := 1) hx hb dX3_rightHead_22 (by decide) ?_
    refine lv_iadd hx hb dX3_rightHead_23 ?_
    have hρ : kX3_rightHead f x1 = (x1 + 1) := (if_neg c_4).trans ((if_neg c_14))
    exact e_rd hx hb hr hlk dX3_rightHead_24 hρ.symm
  have c_14 : (x1 + 1) = (f 0 0) := c_14
  refine lv_iconst (v := 0) hx hb dX3_rightHead_17 (by decide) ?_
  refine lv_goto (tgt := 24) hx hb dX3_rightHead_18 (by decide) ?_
  have hρ : kX3_rightHead f x1 = 0 := (if_neg c_4).trans ((if_pos c_14))
  exact e_rd hx hb hr hlk dX3_rightHead_24 hρ.symm
theorem ndX3_joins : yX3_joins.cls = RX3 ∧ yX3_joins.cls ≠ "java/lang/invoke/MethodHandle" ∧ yX3_joins.cls ≠ "java/lang/invoke/VarHandle" ∧ (parseMethodDescriptor yX3_joins.desc).map (fun d => d.parameters.length) = some 1 := by decide +kernel
set_option maxHeartbeats 4000000 in
set_option maxRecDepth 100000 in
theorem okX3_joins (l : Launch) (D : va_G) (cI cZ cQ : ClassId) (h : Nat) (a : Nat → Nat) (X : va_W) (f : Nat → Nat → Int32) (x1 : Int32) : Met l yX3_joins wsX3_joins ({ frames := 1, cells := 0, slots := 0, locals := 21 }) (PR [.ref h, .int x1] D (TY cI cZ cQ) (LW cI h a f ++ X)) (QR (kX3_joins f x1)) 0 0 (fun _ => False) := by
  refine m_rd (cc := cX3_joins) (maxL := 4) (ret := (some .boolean)) (by decide) rfl (Nat.le_of_ble_eq_true rfl) (lv0 := [(0, .ref h), (1, .int x1)]) rfl ?_
  intro p e s m below meth c ls S hr hlk hP hK hl
  have S : CallFix p m c cX3_joins 4 s ([.ref h, .int x1] : List Value).toArray wsX3_joins RX3 := S
  have hx := S.1
  have hb := S.2.1
  have hown : s.vm.findClass RX3 = some m.cls := S.2.2.2.1
  have hts := S.2.2.2.2
  refine lv_aload_n hx hb dX3_joins_0 rfl (lv_at hl 0 rfl) ?_
  refine lv_iload_n hx hb dX3_joins_1 rfl (lv_at hl 1 rfl) ?_
  refine k_rd (As := [.int x1]) (rest := []) (bytes := cX3_leftOf) (C := RX3) S (okX3_leftOf l D cI cZ cQ h a X f x1) gX3_joins_X3_leftOf rfl ⟨rfl, rfl⟩ ndX3_leftOf ⟨Nat.le_of_ble_eq_true rfl, Nat.le_of_ble_eq_true rfl⟩ hK hP 0 rfl rfl rfl hl rfl (Nat.le_of_ble_eq_true rfl) dX3_joins_2 ⟨Nat.zero_le _, Nat.zero_le _⟩ ?_
  refine lv_istore_n (lv' := [(2, .int (kX3_leftOf f x1)), (0, .ref h), (1, .int x1)]) hx hb dX3_joins_5 rfl hl (by decide) rfl (fun ls hl => ?_)
  refine lv_aload_n hx hb dX3_joins_6 rfl (lv_at hl 1 rfl) ?_
  refine lv_iload_n hx hb dX3_joins_7 rfl (lv_at hl 2 rfl) ?_
  refine k_rd (As := [.int x1]) (rest := []) (bytes := cX3_rightOf) (C := RX3) S (okX3_rightOf l D cI cZ cQ h a X f x1) gX3_joins_X3_rightOf rfl ⟨rfl, rfl⟩ ndX3_rightOf ⟨Nat.le_of_ble_eq_true rfl, Nat.le_of_ble_eq_true rfl⟩ hK hP 0 rfl rfl rfl hl rfl (Nat.le_of_ble_eq_true rfl) dX3_joins_8 ⟨Nat.zero_le _, Nat.zero_le _⟩ ?_
  refine lv_istore_n (lv' := [(3, .int (kX3_rightOf f x1)), (2, .int (kX3_leftOf f x1)), (0, .ref h), (1, .int x1)]) hx hb dX3_joins_11 rfl hl (by decide) rfl (fun ls hl => ?_)
  refine lv_aload_n hx hb dX3_joins_12 rfl (lv_at hl 2 rfl) ?_
  refine lv_iload_n hx hb dX3_joins_13 rfl (lv_at hl 1 rfl) ?_
  refine k_rd (As := [.int (kX3_leftOf f x1)]) (rest := []) (bytes := cX3_hasSection) (C := RX3) S (okX3_hasSection l D cI cZ cQ h a X f (kX3_leftOf f x1)) gX3_joins_X3_hasSection rfl ⟨rfl, rfl⟩ ndX3_hasSection ⟨Nat.le_of_ble_eq_true rfl, Nat.le_of_ble_eq_true rfl⟩ hK hP 0 rfl rfl rfl hl rfl (Nat.le_of_ble_eq_true rfl) dX3_joins_14 ⟨Nat.zero_le _, Nat.zero_le _⟩ ?_
  refine lv_if_eq (tgt := 37) hx hb dX3_joins_17 (by decide) (fun c_17 => ?_) (fun c_17 => ?_)
  · have c_17 : (kX3_hasSection f (kX3_leftOf f x1)) = 0 := c_17
    refine lv_iconst (v := 0) hx hb dX3_joins_37 (by decide) ?_
    have hρ : kX3_joins f x1 = 0 := (if_pos c_17)
    exact e_rz hx hb hr hlk dX3_joins_38 rfl hρ.symm
  have c_17 : ¬ ((kX3_hasSection f (kX3_leftOf f x1)) = 0) := c_17
  refine lv_aload_n hx hb dX3_joins_20 rfl (lv_at hl 2 rfl) ?_
  refine lv_iload_n hx hb dX3_joins_21 rfl (lv_at hl 0 rfl) ?_
  refine k_rd (As := [.int (kX3_rightOf f x1)]) (rest := []) (bytes := cX3_hasSection) (C := RX3) S (okX3_hasSection l D cI cZ cQ h a X f (kX3_rightOf f x1)) gX3_joins_X3_hasSection rfl ⟨rfl, rfl⟩ ndX3_hasSection ⟨Nat.le_of_ble_eq_true rfl, Nat.le_of_ble_eq_true rfl⟩ hK hP 0 rfl rfl rfl hl rfl (Nat.le_of_ble_eq_true rfl) dX3_joins_22 ⟨Nat.zero_le _, Nat.zero_le _⟩ ?_
  refine lv_if_eq (tgt := 37) hx hb dX3_joins_25 (by decide) (fun c_25 => ?_) (fun c_25 => ?_)
  · have c_25 : (kX3_hasSection f (kX3_rightOf f x1)) = 0 := c_25
    refine lv_iconst (v := 0) hx hb dX3_joins_37 (by decide) ?_
    have hρ : kX3_joins f x1 = 0 := (if_neg c_17).trans ((if_pos c_25))
    exact e_rz hx hb hr hlk dX3_joins_38 rfl hρ.symm
  have c_25 : ¬ ((kX3_hasSection f (kX3_rightOf f x1)) = 0) := c_25
  refine lv_iload_n hx hb dX3_joins_28 rfl (lv_at hl 1 rfl) ?_
  refine lv_iload_n hx hb dX3_joins_29 rfl (lv_at hl 0 rfl) ?_
  refine lv_icmp_eq (tgt := 37) hx hb dX3_joins_30 (by decide) (fun c_30 => ?_) (fun c_30 => ?_)
  · have c_30 : (kX3_leftOf f x1) = (kX3_rightOf f x1) := c_30
    refine lv_iconst (v := 0) hx hb dX3_joins_37 (by decide) ?_
    have hρ : kX3_joins f x1 = 0 := (if_neg c_17).trans ((if_neg c_25).trans ((if_pos c_30)))
    exact e_rz hx hb hr hlk dX3_joins_38 rfl hρ.symm
  have c_30 : ¬ ((kX3_leftOf f x1) = (kX3_rightOf f x1)) := c_30
  refine lv_iconst (v := 1) hx hb dX3_joins_33 (by decide) ?_
  refine lv_goto (tgt := 38) hx hb dX3_joins_34 (by decide) ?_
  have hρ : kX3_joins f x1 = 1 := (if_neg c_17).trans ((if_neg c_25).trans ((if_neg c_30)))
  exact e_rz hx hb hr hlk dX3_joins_38 rfl hρ.symm
theorem ndX3_feelsAll : yX3_feelsAll.cls = RX3 ∧ yX3_feelsAll.cls ≠ "java/lang/invoke/MethodHandle" ∧ yX3_feelsAll.cls ≠ "java/lang/invoke/VarHandle" ∧ (parseMethodDescriptor yX3_feelsAll.desc).map (fun d => d.parameters.length) = some 1 := by decide +kernel
set_option maxHeartbeats 4000000 in
set_option maxRecDepth 100000 in
theorem okX3_feelsAll (l : Launch) (D : va_G) (cI cZ cQ : ClassId) (h : Nat) (a : Nat → Nat) (X : va_W) (f : Nat → Nat → Int32) (x1 : Int32) (h1 : vp_in x1 7) : Met l yX3_feelsAll wsX3_feelsAll ({ frames := 0, cells := 0, slots := 0, locals := 0 }) (PR [.ref h, .int x1] D (TY cI cZ cQ) (LW cI h a f ++ X)) (QR (kX3_feelsAll f x1)) 0 0 (fun _ => False) := by
  refine m_rd (cc := cX3_feelsAll) (maxL := 2) (ret := (some .boolean)) (by decide) rfl (Nat.le_of_ble_eq_true rfl) (lv0 := [(0, .ref h), (1, .int x1)]) rfl ?_
  intro p e s m below meth c ls S hr hlk hP hK hl
  have S : CallFix p m c cX3_feelsAll 2 s ([.ref h, .int x1] : List Value).toArray wsX3_feelsAll RX3 := S
  have hx := S.1
  have hb := S.2.1
  have hown : s.vm.findClass RX3 = some m.cls := S.2.2.2.1
  have hts := S.2.2.2.2
  have hinX3 : ∀ w ∈ wsX30, w ∈ wsX3_feelsAll := by decide +kernel
  refine lv_aload_n hx hb dX3_feelsAll_0 rfl (lv_at hl 0 rfl) ?_
  refine va_get (v := .ref (a 6)) (C := RX3) (T := TX3) (N := 15) (ci := 3) hx hb hts hinX3 hown hK hP 0 rfl rfl 6 (by decide) (hts (.fieldLink RX3 21 "AxleKeeper$Line" "faulty" "[I") (by decide +kernel)) (fun _ h9 => h9) rfl dX3_feelsAll_1 ?_
  refine lv_iload_n hx hb dX3_feelsAll_4 rfl (lv_at hl 1 rfl) ?_
  refine va_iald hx hb hK hP 4 0 rfl rfl (n := 7) (by assumption) dX3_feelsAll_5 ?_
  refine lv_if_ne (tgt := 22) hx hb dX3_feelsAll_6 (by decide) (fun c_6 => ?_) (fun c_6 => ?_)
  · have c_6 : ¬ ((f 6 (ix x1)) = 0) := c_6
    refine lv_iconst (v := 0) hx hb dX3_feelsAll_22 (by decide) ?_
    have hρ : kX3_feelsAll f x1 = 0 := (if_neg c_6)
    exact e_rz hx hb hr hlk dX3_feelsAll_23 rfl hρ.symm
  have c_6 : (f 6 (ix x1)) = 0 := c_6
  refine lv_aload_n hx hb dX3_feelsAll_9 rfl (lv_at hl 0 rfl) ?_
  refine va_get (v := .ref (a 3)) (C := RX3) (T := TX3) (N := 15) (ci := 3) hx hb hts hinX3 hown hK hP 0 rfl rfl 3 (by decide) (hts (.fieldLink RX3 11 "AxleKeeper$Line" "state" "[I") (by decide +kernel)) (fun _ h9 => h9) rfl dX3_feelsAll_10 ?_
  refine lv_iload_n hx hb dX3_feelsAll_13 rfl (lv_at hl 1 rfl) ?_
  refine va_iald hx hb hK hP 1 0 rfl rfl (n := 7) (by assumption) dX3_feelsAll_14 ?_
  refine lv_if_ne (tgt := 22) hx hb dX3_feelsAll_15 (by decide) (fun c_15 => ?_) (fun c_15 => ?_)
  · have c_15 : ¬ ((f 3 (ix x1)) = 0) := c_15
    refine lv_iconst (v := 0) hx hb dX3_feelsAll_22 (by decide) ?_
    have hρ : kX3_feelsAll f x1 = 0 := (if_pos c_6).trans ((if_neg c_15))
    exact e_rz hx hb hr hlk dX3_feelsAll_23 rfl hρ.symm
  have c_15 : (f 3 (ix x1)) = 0 := c_15
  refine lv_iconst (v := 1) hx hb dX3_feelsAll_18 (by decide) ?_
  refine lv_goto (tgt := 23) hx hb dX3_feelsAll_19 (by decide) ?_
  have hρ : kX3_feelsAll f x1 = 1 := (if_pos c_6).trans ((if_pos c_15))
  exact e_rz hx hb hr hlk dX3_feelsAll_23 rfl hρ.symm
theorem ndX3_from : yX3_from.cls = RX3 ∧ yX3_from.cls ≠ "java/lang/invoke/MethodHandle" ∧ yX3_from.cls ≠ "java/lang/invoke/VarHandle" ∧ (parseMethodDescriptor yX3_from.desc).map (fun d => d.parameters.length) = some 2 := by decide +kernel
set_option maxHeartbeats 4000000 in
set_option maxRecDepth 100000 in
theorem okX3_from (l : Launch) (D : va_G) (cI cZ cQ : ClassId) (h : Nat) (a : Nat → Nat) (X : va_W) (f : Nat → Nat → Int32) (x1 x2 : Int32) : Met l yX3_from wsX3_from ({ frames := 1, cells := 0, slots := 0, locals := 21 }) (PR [.ref h, .int x1, .int x2] D (TY cI cZ cQ) (LW cI h a f ++ X)) (QR (kX3_from f x1 x2)) 0 0 (fun _ => False) := by
  refine m_rd (cc := cX3_from) (maxL := 3) (ret := (some .int)) (by decide) rfl (Nat.le_of_ble_eq_true rfl) (lv0 := [(0, .ref h), (1, .int x1), (2, .int x2)]) rfl ?_
  intro p e s m below meth c ls S hr hlk hP hK hl
  have S : CallFix p m c cX3_from 3 s ([.ref h, .int x1, .int x2] : List Value).toArray wsX3_from RX3 := S
  have hx := S.1
  have hb := S.2.1
  have hown : s.vm.findClass RX3 = some m.cls := S.2.2.2.1
  have hts := S.2.2.2.2
  refine lv_iload_n hx hb dX3_from_0 rfl (lv_at hl 2 rfl) ?_
  refine lv_if_ne (tgt := 12) hx hb dX3_from_1 (by decide) (fun c_1 => ?_) (fun c_1 => ?_)
  · have c_1 : ¬ (x2 = 0) := c_1
    refine lv_aload_n hx hb dX3_from_12 rfl (lv_at hl 0 rfl) ?_
    refine lv_iload_n hx hb dX3_from_13 rfl (lv_at hl 1 rfl) ?_
    refine k_rd (As := [.int x1]) (rest := []) (bytes := cX3_rightOf) (C := RX3) S (okX3_rightOf l D cI cZ cQ h a X f x1) gX3_from_X3_rightOf rfl ⟨rfl, rfl⟩ ndX3_rightOf ⟨Nat.le_of_ble_eq_true rfl, Nat.le_of_ble_eq_true rfl⟩ hK hP 0 rfl rfl rfl hl rfl (Nat.le_of_ble_eq_true rfl) dX3_from_14 ⟨Nat.zero_le _, Nat.zero_le _⟩ ?_
    have hρ : kX3_from f x1 x2 = (kX3_rightOf f x1) := (if_neg c_1)
    exact e_rd hx hb hr hlk dX3_from_17 hρ.symm
  have c_1 : x2 = 0 := c_1
  refine lv_aload_n hx hb dX3_from_4 rfl (lv_at hl 0 rfl) ?_
  refine lv_iload_n hx hb dX3_from_5 rfl (lv_at hl 1 rfl) ?_
  refine k_rd (As := [.int x1]) (rest := []) (bytes := cX3_leftOf) (C := RX3) S (okX3_leftOf l D cI cZ cQ h a X f x1) gX3_from_X3_leftOf rfl ⟨rfl, rfl⟩ ndX3_leftOf ⟨Nat.le_of_ble_eq_true rfl, Nat.le_of_ble_eq_true rfl⟩ hK hP 0 rfl rfl rfl hl rfl (Nat.le_of_ble_eq_true rfl) dX3_from_6 ⟨Nat.zero_le _, Nat.zero_le _⟩ ?_
  refine lv_goto (tgt := 17) hx hb dX3_from_9 (by decide) ?_
  have hρ : kX3_from f x1 x2 = (kX3_leftOf f x1) := (if_pos c_1)
  exact e_rd hx hb hr hlk dX3_from_17 hρ.symm
theorem ndX3_canCarry : yX3_canCarry.cls = RX3 ∧ yX3_canCarry.cls ≠ "java/lang/invoke/MethodHandle" ∧ yX3_canCarry.cls ≠ "java/lang/invoke/VarHandle" ∧ (parseMethodDescriptor yX3_canCarry.desc).map (fun d => d.parameters.length) = some 3 := by decide +kernel
set_option maxHeartbeats 4000000 in
set_option maxRecDepth 100000 in
theorem okX3_canCarry (l : Launch) (D : va_G) (cI cZ cQ : ClassId) (h : Nat) (a : Nat → Nat) (X : va_W) (f : Nat → Nat → Int32) (x1 x2 x3 : Int32) (hok : okL f) : Met l yX3_canCarry wsX3_canCarry ({ frames := 2, cells := 0, slots := 0, locals := 43 }) (PR [.ref h, .int x1, .int x2, .int x3] D (TY cI cZ cQ) (LW cI h a f ++ X)) (QR (kX3_canCarry f x1 x2 x3)) 0 0 (fun _ => False) := by
  refine m_rd (cc := cX3_canCarry) (maxL := 5) (ret := (some .boolean)) (by decide) rfl (Nat.le_of_ble_eq_true rfl) (lv0 := [(0, .ref h), (1, .int x1), (2, .int x2), (3, .int x3)]) rfl ?_
  intro p e s m below meth c ls S hr hlk hP hK hl
  have S : CallFix p m c cX3_canCarry 5 s ([.ref h, .int x1, .int x2, .int x3] : List Value).toArray wsX3_canCarry RX3 := S
  have hx := S.1
  have hb := S.2.1
  have hown : s.vm.findClass RX3 = some m.cls := S.2.2.2.1
  have hts := S.2.2.2.2
  have hinX3 : ∀ w ∈ wsX30, w ∈ wsX3_canCarry := by decide +kernel
  refine lv_aload_n hx hb dX3_canCarry_0 rfl (lv_at hl 0 rfl) ?_
  refine lv_iload_n hx hb dX3_canCarry_1 rfl (lv_at hl 1 rfl) ?_
  refine lv_iload_n hx hb dX3_canCarry_2 rfl (lv_at hl 2 rfl) ?_
  refine k_rd (As := [.int x1, .int x2]) (rest := []) (bytes := cX3_from) (C := RX3) S (okX3_from l D cI cZ cQ h a X f x1 x2) gX3_canCarry_X3_from rfl ⟨rfl, rfl⟩ ndX3_from ⟨Nat.le_of_ble_eq_true rfl, Nat.le_of_ble_eq_true rfl⟩ hK hP 0 rfl rfl rfl hl rfl (Nat.le_of_ble_eq_true rfl) dX3_canCarry_3 ⟨Nat.zero_le _, Nat.zero_le _⟩ ?_
  refine lv_istore (lv' := [(4, .int (kX3_from f x1 x2)), (0, .ref h), (1, .int x1), (2, .int x2), (3, .int x3)]) hx hb dX3_canCarry_6 hl (by decide) rfl (fun ls hl => ?_)
  refine lv_aload_n hx hb dX3_canCarry_8 rfl (lv_at hl 1 rfl) ?_
  refine lv_iload hx hb dX3_canCarry_9 (lv_at hl 0 rfl) ?_
  refine k_rd (As := [.int (kX3_from f x1 x2)]) (rest := []) (bytes := cX3_hasSection) (C := RX3) S (okX3_hasSection l D cI cZ cQ h a X f (kX3_from f x1 x2)) gX3_canCarry_X3_hasSection rfl ⟨rfl, rfl⟩ ndX3_hasSection ⟨Nat.le_of_ble_eq_true rfl, Nat.le_of_ble_eq_true rfl⟩ hK hP 0 rfl rfl rfl hl rfl (Nat.le_of_ble_eq_true rfl) dX3_canCarry_11 ⟨Nat.zero_le _, Nat.zero_le _⟩ ?_
  refine lv_if_eq (tgt := 28) hx hb dX3_canCarry_14 (by decide) (fun c_14 => ?_) (fun c_14 => ?_)
  · have c_14 : (kX3_hasSection f (kX3_from f x1 x2)) = 0 := c_14
    refine lv_iconst (v := 1) hx hb dX3_canCarry_28 (by decide) ?_
    refine lv_goto (tgt := 33) hx hb dX3_canCarry_29 (by decide) ?_
    have hρ : kX3_canCarry f x1 x2 x3 = 1 := (if_pos c_14)
    exact e_rz hx hb hr hlk dX3_canCarry_33 rfl hρ.symm
  have c_14 : ¬ ((kX3_hasSection f (kX3_from f x1 x2)) = 0) := c_14
  have hv1 : vp_in _ 6 := hs_in hok c_14
  refine lv_aload_n hx hb dX3_canCarry_17 rfl (lv_at hl 1 rfl) ?_
  refine va_get (v := .ref (a 14)) (C := RX3) (T := TX3) (N := 15) (ci := 3) hx hb hts hinX3 hown hK hP 0 rfl rfl 14 (by decide) (hts (.fieldLink RX3 45 "AxleKeeper$Line" "axles" "[I") (by decide +kernel)) (fun _ h9 => h9) rfl dX3_canCarry_18 ?_
  refine lv_iload hx hb dX3_canCarry_21 (lv_at hl 0 rfl) ?_
  refine va_iald hx hb hK hP 12 0 rfl rfl (n := 6) (by assumption) dX3_canCarry_23 ?_
  refine lv_iload_n hx hb dX3_canCarry_24 rfl (lv_at hl 4 rfl) ?_
  refine lv_icmp_lt (tgt := 32) hx hb dX3_canCarry_25 (by decide) (fun c_25 => ?_) (fun c_25 => ?_)
  · have c_25 : (f 14 (ix (kX3_from f x1 x2))) < x3 := c_25
    refine lv_iconst (v := 0) hx hb dX3_canCarry_32 (by decide) ?_
    have hρ : kX3_canCarry f x1 x2 x3 = 0 := (if_neg c_14).trans ((if_pos c_25))
    exact e_rz hx hb hr hlk dX3_canCarry_33 rfl hρ.symm
  have c_25 : ¬ ((f 14 (ix (kX3_from f x1 x2))) < x3) := c_25
  refine lv_iconst (v := 1) hx hb dX3_canCarry_28 (by decide) ?_
  refine lv_goto (tgt := 33) hx hb dX3_canCarry_29 (by decide) ?_
  have hρ : kX3_canCarry f x1 x2 x3 = 1 := (if_neg c_14).trans ((if_neg c_25))
  exact e_rz hx hb hr hlk dX3_canCarry_33 rfl hρ.symm
theorem ndX3_isBad : yX3_isBad.cls = RX3 ∧ yX3_isBad.cls ≠ "java/lang/invoke/MethodHandle" ∧ yX3_isBad.cls ≠ "java/lang/invoke/VarHandle" ∧ (parseMethodDescriptor yX3_isBad.desc).map (fun d => d.parameters.length) = some 1 := by decide +kernel
set_option maxHeartbeats 4000000 in
set_option maxRecDepth 100000 in
theorem okX3_isBad (l : Launch) (D : va_G) (cI cZ cQ : ClassId) (h : Nat) (a : Nat → Nat) (X : va_W) (f : Nat → Nat → Int32) (x1 : Int32) (h1 : vp_in x1 7) : Met l yX3_isBad wsX3_isBad ({ frames := 0, cells := 0, slots := 0, locals := 0 }) (PR [.ref h, .int x1] D (TY cI cZ cQ) (LW cI h a f ++ X)) (QR (kX3_isBad f x1)) 0 0 (fun _ => False) := by
  refine m_rd (cc := cX3_isBad) (maxL := 2) (ret := (some .boolean)) (by decide) rfl (Nat.le_of_ble_eq_true rfl) (lv0 := [(0, .ref h), (1, .int x1)]) rfl ?_
  intro p e s m below meth c ls S hr hlk hP hK hl
  have S : CallFix p m c cX3_isBad 2 s ([.ref h, .int x1] : List Value).toArray wsX3_isBad RX3 := S
  have hx := S.1
  have hb := S.2.1
  have hown : s.vm.findClass RX3 = some m.cls := S.2.2.2.1
  have hts := S.2.2.2.2
  have hinX3 : ∀ w ∈ wsX30, w ∈ wsX3_isBad := by decide +kernel
  refine lv_aload_n hx hb dX3_isBad_0 rfl (lv_at hl 0 rfl) ?_
  refine va_get (v := .ref (a 8)) (C := RX3) (T := TX3) (N := 15) (ci := 3) hx hb hts hinX3 hown hK hP 0 rfl rfl 8 (by decide) (hts (.fieldLink RX3 27 "AxleKeeper$Line" "heardFaulty" "[I") (by decide +kernel)) (fun _ h9 => h9) rfl dX3_isBad_1 ?_
  refine lv_iload_n hx hb dX3_isBad_4 rfl (lv_at hl 1 rfl) ?_
  refine va_iald hx hb hK hP 6 0 rfl rfl (n := 7) (by assumption) dX3_isBad_5 ?_
  refine lv_iconst (v := 1) hx hb dX3_isBad_6 (by decide) ?_
  refine lv_icmp_eq (tgt := 20) hx hb dX3_isBad_7 (by decide) (fun c_7 => ?_) (fun c_7 => ?_)
  · have c_7 : (f 8 (ix x1)) = 1 := c_7
    refine lv_iconst (v := 1) hx hb dX3_isBad_20 (by decide) ?_
    refine lv_goto (tgt := 25) hx hb dX3_isBad_21 (by decide) ?_
    have hρ : kX3_isBad f x1 = 1 := (if_pos c_7)
    exact e_rz hx hb hr hlk dX3_isBad_25 rfl hρ.symm
  have c_7 : ¬ ((f 8 (ix x1)) = 1) := c_7
  refine lv_aload_n hx hb dX3_isBad_10 rfl (lv_at hl 0 rfl) ?_
  refine va_get (v := .ref (a 9)) (C := RX3) (T := TX3) (N := 15) (ci := 3) hx hb hts hinX3 hown hK hP 0 rfl rfl 9 (by decide) (hts (.fieldLink RX3 30 "AxleKeeper$Line" "age" "[I") (by decide +kernel)) (fun _ h9 => h9) rfl dX3_isBad_11 ?_
  refine lv_iload_n hx hb dX3_isBad_14 rfl (lv_at hl 1 rfl) ?_
  refine va_iald hx hb hK hP 7 0 rfl rfl (n := 7) (by assumption) dX3_isBad_15 ?_
  refine lv_iconst (v := 3) hx hb dX3_isBad_16 (by decide) ?_
  refine lv_icmp_le (tgt := 24) hx hb dX3_isBad_17 (by decide) (fun c_17 => ?_) (fun c_17 => ?_)
  · have c_17 : (f 9 (ix x1)) ≤ 3 := c_17
    refine lv_iconst (v := 0) hx hb dX3_isBad_24 (by decide) ?_
    have hρ : kX3_isBad f x1 = 0 := (if_neg c_7).trans ((if_pos c_17))
    exact e_rz hx hb hr hlk dX3_isBad_25 rfl hρ.symm
  have c_17 : ¬ ((f 9 (ix x1)) ≤ 3) := c_17
  refine lv_iconst (v := 1) hx hb dX3_isBad_20 (by decide) ?_
  refine lv_goto (tgt := 25) hx hb dX3_isBad_21 (by decide) ?_
  have hρ : kX3_isBad f x1 = 1 := (if_neg c_7).trans ((if_neg c_17))
  exact e_rz hx hb hr hlk dX3_isBad_25 rfl hρ.symm
theorem ndX3_hasBadHead : yX3_hasBadHead.cls = RX3 ∧ yX3_hasBadHead.cls ≠ "java/lang/invoke/MethodHandle" ∧ yX3_hasBadHead.cls ≠ "java/lang/invoke/VarHandle" ∧ (parseMethodDescriptor yX3_hasBadHead.desc).map (fun d => d.parameters.length) = some 1 := by decide +kernel
set_option maxHeartbeats 4000000 in
set_option maxRecDepth 100000 in
theorem okX3_hasBadHead (l : Launch) (D : va_G) (cI cZ cQ : ClassId) (h : Nat) (a : Nat → Nat) (X : va_W) (f : Nat → Nat → Int32) (x1 : Int32) (h1 : vp_in x1 6) : Met l yX3_hasBadHead wsX3_hasBadHead ({ frames := 1, cells := 0, slots := 0, locals := 21 }) (PR [.ref h, .int x1] D (TY cI cZ cQ) (LW cI h a f ++ X)) (QR (kX3_hasBadHead f x1)) 0 0 (fun _ => False) := by
  refine m_rd (cc := cX3_hasBadHead) (maxL := 2) (ret := (some .boolean)) (by decide) rfl (Nat.le_of_ble_eq_true rfl) (lv0 := [(0, .ref h), (1, .int x1)]) rfl ?_
  intro p e s m below meth c ls S hr hlk hP hK hl
  have S : CallFix p m c cX3_hasBadHead 2 s ([.ref h, .int x1] : List Value).toArray wsX3_hasBadHead RX3 := S
  have hx := S.1
  have hb := S.2.1
  have hown : s.vm.findClass RX3 = some m.cls := S.2.2.2.1
  have hts := S.2.2.2.2
  refine lv_aload_n hx hb dX3_hasBadHead_0 rfl (lv_at hl 0 rfl) ?_
  refine lv_iload_n hx hb dX3_hasBadHead_1 rfl (lv_at hl 1 rfl) ?_
  refine k_rd (As := [.int x1]) (rest := []) (bytes := cX3_isBad) (C := RX3) S (okX3_isBad l D cI cZ cQ h a X f x1 (in67 h1)) gX3_hasBadHead_X3_isBad rfl ⟨rfl, rfl⟩ ndX3_isBad ⟨Nat.le_of_ble_eq_true rfl, Nat.le_of_ble_eq_true rfl⟩ hK hP 0 rfl rfl rfl hl rfl (Nat.le_of_ble_eq_true rfl) dX3_hasBadHead_2 ⟨Nat.zero_le _, Nat.zero_le _⟩ ?_
  refine lv_if_ne (tgt := 20) hx hb dX3_hasBadHead_5 (by decide) (fun c_5 => ?_) (fun c_5 => ?_)
  · have c_5 : ¬ ((kX3_isBad f x1) = 0) := c_5
    refine lv_iconst (v := 1) hx hb dX3_hasBadHead_20 (by decide) ?_
    refine lv_goto (tgt := 25) hx hb dX3_hasBadHead_21 (by decide) ?_
    have hρ : kX3_hasBadHead f x1 = 1 := (if_neg c_5)
    exact e_rz hx hb hr hlk dX3_hasBadHead_25 rfl hρ.symm
  have c_5 : (kX3_isBad f x1) = 0 := c_5
  refine lv_aload_n hx hb dX3_hasBadHead_8 rfl (lv_at hl 0 rfl) ?_
  refine lv_aload_n hx hb dX3_hasBadHead_9 rfl (lv_at hl 0 rfl) ?_
  refine lv_iload_n hx hb dX3_hasBadHead_10 rfl (lv_at hl 1 rfl) ?_
  refine k_rd (As := [.int x1]) (rest := [.ref h]) (bytes := cX3_rightHead) (C := RX3) S (okX3_rightHead l D cI cZ cQ h a X f x1) gX3_hasBadHead_X3_rightHead rfl ⟨rfl, rfl⟩ ndX3_rightHead ⟨Nat.le_of_ble_eq_true rfl, Nat.le_of_ble_eq_true rfl⟩ hK hP 0 rfl rfl rfl hl rfl (Nat.le_of_ble_eq_true rfl) dX3_hasBadHead_11 ⟨Nat.zero_le _, Nat.zero_le _⟩ ?_
  refine k_rd (As := [.int (kX3_rightHead f x1)]) (rest := []) (bytes := cX3_isBad) (C := RX3) S (okX3_isBad l D cI cZ cQ h a X f (kX3_rightHead f x1) (rh_in h1)) gX3_hasBadHead_X3_isBad rfl ⟨rfl, rfl⟩ ndX3_isBad ⟨Nat.le_of_ble_eq_true rfl, Nat.le_of_ble_eq_true rfl⟩ hK hP 0 rfl rfl rfl hl rfl (Nat.le_of_ble_eq_true rfl) dX3_hasBadHead_14 ⟨Nat.zero_le _, Nat.zero_le _⟩ ?_
  refine lv_if_eq (tgt := 24) hx hb dX3_hasBadHead_17 (by decide) (fun c_17 => ?_) (fun c_17 => ?_)
  · have c_17 : (kX3_isBad f (kX3_rightHead f x1)) = 0 := c_17
    refine lv_iconst (v := 0) hx hb dX3_hasBadHead_24 (by decide) ?_
    have hρ : kX3_hasBadHead f x1 = 0 := (if_pos c_5).trans ((if_pos c_17))
    exact e_rz hx hb hr hlk dX3_hasBadHead_25 rfl hρ.symm
  have c_17 : ¬ ((kX3_isBad f (kX3_rightHead f x1)) = 0) := c_17
  refine lv_iconst (v := 1) hx hb dX3_hasBadHead_20 (by decide) ?_
  refine lv_goto (tgt := 25) hx hb dX3_hasBadHead_21 (by decide) ?_
  have hρ : kX3_hasBadHead f x1 = 1 := (if_pos c_5).trans ((if_neg c_17))
  exact e_rz hx hb hr hlk dX3_hasBadHead_25 rfl hρ.symm
theorem ndX3_hasTrouble : yX3_hasTrouble.cls = RX3 ∧ yX3_hasTrouble.cls ≠ "java/lang/invoke/MethodHandle" ∧ yX3_hasTrouble.cls ≠ "java/lang/invoke/VarHandle" ∧ (parseMethodDescriptor yX3_hasTrouble.desc).map (fun d => d.parameters.length) = some 1 := by decide +kernel
set_option maxHeartbeats 4000000 in
set_option maxRecDepth 100000 in
theorem okX3_hasTrouble (l : Launch) (D : va_G) (cI cZ cQ : ClassId) (h : Nat) (a : Nat → Nat) (X : va_W) (f : Nat → Nat → Int32) (x1 : Int32) (h1 : vp_in x1 6) : Met l yX3_hasTrouble wsX3_hasTrouble ({ frames := 2, cells := 0, slots := 0, locals := 42 }) (PR [.ref h, .int x1] D (TY cI cZ cQ) (LW cI h a f ++ X)) (QR (kX3_hasTrouble f x1)) 0 0 (fun _ => False) := by
  refine m_rd (cc := cX3_hasTrouble) (maxL := 2) (ret := (some .boolean)) (by decide) rfl (Nat.le_of_ble_eq_true rfl) (lv0 := [(0, .ref h), (1, .int x1)]) rfl ?_
  intro p e s m below meth c ls S hr hlk hP hK hl
  have S : CallFix p m c cX3_hasTrouble 2 s ([.ref h, .int x1] : List Value).toArray wsX3_hasTrouble RX3 := S
  have hx := S.1
  have hb := S.2.1
  have hown : s.vm.findClass RX3 = some m.cls := S.2.2.2.1
  have hts := S.2.2.2.2
  have hinX3 : ∀ w ∈ wsX30, w ∈ wsX3_hasTrouble := by decide +kernel
  refine lv_aload_n hx hb dX3_hasTrouble_0 rfl (lv_at hl 0 rfl) ?_
  refine va_get (v := .ref (a 11)) (C := RX3) (T := TX3) (N := 15) (ci := 3) hx hb hts hinX3 hown hK hP 0 rfl rfl 11 (by decide) (hts (.fieldLink RX3 36 "AxleKeeper$Line" "sum" "[I") (by decide +kernel)) (fun _ h9 => h9) rfl dX3_hasTrouble_1 ?_
  refine lv_iload_n hx hb dX3_hasTrouble_4 rfl (lv_at hl 1 rfl) ?_
  refine va_iald hx hb hK hP 9 0 rfl rfl (n := 6) (by assumption) dX3_hasTrouble_5 ?_
  refine lv_if_lt (tgt := 17) hx hb dX3_hasTrouble_6 (by decide) (fun c_6 => ?_) (fun c_6 => ?_)
  · have c_6 : (f 11 (ix x1)) < 0 := c_6
    refine lv_iconst (v := 1) hx hb dX3_hasTrouble_17 (by decide) ?_
    refine lv_goto (tgt := 22) hx hb dX3_hasTrouble_18 (by decide) ?_
    have hρ : kX3_hasTrouble f x1 = 1 := (if_pos c_6)
    exact e_rz hx hb hr hlk dX3_hasTrouble_22 rfl hρ.symm
  have c_6 : ¬ ((f 11 (ix x1)) < 0) := c_6
  refine lv_aload_n hx hb dX3_hasTrouble_9 rfl (lv_at hl 0 rfl) ?_
  refine lv_iload_n hx hb dX3_hasTrouble_10 rfl (lv_at hl 1 rfl) ?_
  refine k_rd (As := [.int x1]) (rest := []) (bytes := cX3_hasBadHead) (C := RX3) S (okX3_hasBadHead l D cI cZ cQ h a X f x1 (by assumption)) gX3_hasTrouble_X3_hasBadHead rfl ⟨rfl, rfl⟩ ndX3_hasBadHead ⟨Nat.le_of_ble_eq_true rfl, Nat.le_of_ble_eq_true rfl⟩ hK hP 0 rfl rfl rfl hl rfl (Nat.le_of_ble_eq_true rfl) dX3_hasTrouble_11 ⟨Nat.zero_le _, Nat.zero_le _⟩ ?_
  refine lv_if_eq (tgt := 21) hx hb dX3_hasTrouble_14 (by decide) (fun c_14 => ?_) (fun c_14 => ?_)
  · have c_14 : (kX3_hasBadHead f x1) = 0 := c_14
    refine lv_iconst (v := 0) hx hb dX3_hasTrouble_21 (by decide) ?_
    have hρ : kX3_hasTrouble f x1 = 0 := (if_neg c_6).trans ((if_pos c_14))
    exact e_rz hx hb hr hlk dX3_hasTrouble_22 rfl hρ.symm
  have c_14 : ¬ ((kX3_hasBadHead f x1) = 0) := c_14
  refine lv_iconst (v := 1) hx hb dX3_hasTrouble_17 (by decide) ?_
  refine lv_goto (tgt := 22) hx hb dX3_hasTrouble_18 (by decide) ?_
  have hρ : kX3_hasTrouble f x1 = 1 := (if_neg c_6).trans ((if_neg c_14))
  exact e_rz hx hb hr hlk dX3_hasTrouble_22 rfl hρ.symm
theorem ndX3_joint : yX3_joint.cls = RX3 ∧ yX3_joint.cls ≠ "java/lang/invoke/MethodHandle" ∧ yX3_joint.cls ≠ "java/lang/invoke/VarHandle" ∧ (parseMethodDescriptor yX3_joint.desc).map (fun d => d.parameters.length) = some 1 := by decide +kernel
set_option maxHeartbeats 4000000 in
set_option maxRecDepth 100000 in
theorem okX3_joint (l : Launch) (D : va_G) (cI cZ cQ : ClassId) (h : Nat) (a : Nat → Nat) (X : va_W) (f : Nat → Nat → Int32) (x1 : Int32) (hok : okL f) : Met l yX3_joint wsX3_joint ({ frames := 1, cells := 0, slots := 0, locals := 21 }) (PR [.ref h, .int x1] D (TY cI cZ cQ) (LW cI h a f ++ X)) (QR (kX3_joint f x1)) 0 0 (fun _ => False) := by
  refine m_rd (cc := cX3_joint) (maxL := 4) (ret := (some .int)) (by decide) rfl (Nat.le_of_ble_eq_true rfl) (lv0 := [(0, .ref h), (1, .int x1)]) rfl ?_
  intro p e s m below meth c ls S hr hlk hP hK hl
  have S : CallFix p m c cX3_joint 4 s ([.ref h, .int x1] : List Value).toArray wsX3_joint RX3 := S
  have hx := S.1
  have hb := S.2.1
  have hown : s.vm.findClass RX3 = some m.cls := S.2.2.2.1
  have hts := S.2.2.2.2
  have hinX3 : ∀ w ∈ wsX30, w ∈ wsX3_joint := by decide +kernel
  refine lv_aload_n hx hb dX3_joint_0 rfl (lv_at hl 0 rfl) ?_
  refine lv_iload_n hx hb dX3_joint_1 rfl (lv_at hl 1 rfl) ?_
  refine k_rd (As := [.int x1]) (rest := []) (bytes := cX3_leftOf) (C := RX3) S (okX3_leftOf l D cI cZ cQ h a X f x1) gX3_joint_X3_leftOf rfl ⟨rfl, rfl⟩ ndX3_leftOf ⟨Nat.le_of_ble_eq_true rfl, Nat.le_of_ble_eq_true rfl⟩ hK hP 0 rfl rfl rfl hl rfl (Nat.le_of_ble_eq_true rfl) dX3_joint_2 ⟨Nat.zero_le _, Nat.zero_le _⟩ ?_
  refine lv_istore_n (lv' := [(2, .int (kX3_leftOf f x1)), (0, .ref h), (1, .int x1)]) hx hb dX3_joint_5 rfl hl (by decide) rfl (fun ls hl => ?_)
  refine lv_aload_n hx hb dX3_joint_6 rfl (lv_at hl 1 rfl) ?_
  refine lv_iload_n hx hb dX3_joint_7 rfl (lv_at hl 2 rfl) ?_
  refine k_rd (As := [.int x1]) (rest := []) (bytes := cX3_rightOf) (C := RX3) S (okX3_rightOf l D cI cZ cQ h a X f x1) gX3_joint_X3_rightOf rfl ⟨rfl, rfl⟩ ndX3_rightOf ⟨Nat.le_of_ble_eq_true rfl, Nat.le_of_ble_eq_true rfl⟩ hK hP 0 rfl rfl rfl hl rfl (Nat.le_of_ble_eq_true rfl) dX3_joint_8 ⟨Nat.zero_le _, Nat.zero_le _⟩ ?_
  refine lv_istore_n (lv' := [(3, .int (kX3_rightOf f x1)), (2, .int (kX3_leftOf f x1)), (0, .ref h), (1, .int x1)]) hx hb dX3_joint_11 rfl hl (by decide) rfl (fun ls hl => ?_)
  refine lv_aload_n hx hb dX3_joint_12 rfl (lv_at hl 2 rfl) ?_
  refine lv_iload_n hx hb dX3_joint_13 rfl (lv_at hl 1 rfl) ?_
  refine k_rd (As := [.int (kX3_leftOf f x1)]) (rest := []) (bytes := cX3_hasSection) (C := RX3) S (okX3_hasSection l D cI cZ cQ h a X f (kX3_leftOf f x1)) gX3_joint_X3_hasSection rfl ⟨rfl, rfl⟩ ndX3_hasSection ⟨Nat.le_of_ble_eq_true rfl, Nat.le_of_ble_eq_true rfl⟩ hK hP 0 rfl rfl rfl hl rfl (Nat.le_of_ble_eq_true rfl) dX3_joint_14 ⟨Nat.zero_le _, Nat.zero_le _⟩ ?_
  refine lv_if_eq (tgt := 44) hx hb dX3_joint_17 (by decide) (fun c_17 => ?_) (fun c_17 => ?_)
  · have c_17 : (kX3_hasSection f (kX3_leftOf f x1)) = 0 := c_17
    refine lv_iconst (v := 0) hx hb dX3_joint_44 (by decide) ?_
    have hρ : kX3_joint f x1 = 0 := (if_pos c_17)
    exact e_rd hx hb hr hlk dX3_joint_45 hρ.symm
  have c_17 : ¬ ((kX3_hasSection f (kX3_leftOf f x1)) = 0) := c_17
  have hv1 : vp_in _ 6 := hs_in hok c_17
  refine lv_aload_n hx hb dX3_joint_20 rfl (lv_at hl 2 rfl) ?_
  refine lv_iload_n hx hb dX3_joint_21 rfl (lv_at hl 0 rfl) ?_
  refine k_rd (As := [.int (kX3_rightOf f x1)]) (rest := []) (bytes := cX3_hasSection) (C := RX3) S (okX3_hasSection l D cI cZ cQ h a X f (kX3_rightOf f x1)) gX3_joint_X3_hasSection rfl ⟨rfl, rfl⟩ ndX3_hasSection ⟨Nat.le_of_ble_eq_true rfl, Nat.le_of_ble_eq_true rfl⟩ hK hP 0 rfl rfl rfl hl rfl (Nat.le_of_ble_eq_true rfl) dX3_joint_22 ⟨Nat.zero_le _, Nat.zero_le _⟩ ?_
  refine lv_if_eq (tgt := 44) hx hb dX3_joint_25 (by decide) (fun c_25 => ?_) (fun c_25 => ?_)
  · have c_25 : (kX3_hasSection f (kX3_rightOf f x1)) = 0 := c_25
    refine lv_iconst (v := 0) hx hb dX3_joint_44 (by decide) ?_
    have hρ : kX3_joint f x1 = 0 := (if_neg c_17).trans ((if_pos c_25))
    exact e_rd hx hb hr hlk dX3_joint_45 hρ.symm
  have c_25 : ¬ ((kX3_hasSection f (kX3_rightOf f x1)) = 0) := c_25
  have hv2 : vp_in _ 6 := hs_in hok c_25
  refine lv_aload_n hx hb dX3_joint_28 rfl (lv_at hl 2 rfl) ?_
  refine va_get (v := .ref (a 11)) (C := RX3) (T := TX3) (N := 15) (ci := 3) hx hb hts hinX3 hown hK hP 0 rfl rfl 11 (by decide) (hts (.fieldLink RX3 36 "AxleKeeper$Line" "sum" "[I") (by decide +kernel)) (fun _ h9 => h9) rfl dX3_joint_29 ?_
  refine lv_iload_n hx hb dX3_joint_32 rfl (lv_at hl 1 rfl) ?_
  refine va_iald hx hb hK hP 9 0 rfl rfl (n := 6) (by assumption) dX3_joint_33 ?_
  refine lv_aload_n hx hb dX3_joint_34 rfl (lv_at hl 2 rfl) ?_
  refine va_get (v := .ref (a 11)) (C := RX3) (T := TX3) (N := 15) (ci := 3) hx hb hts hinX3 hown hK hP 0 rfl rfl 11 (by decide) (hts (.fieldLink RX3 36 "AxleKeeper$Line" "sum" "[I") (by decide +kernel)) (fun _ h9 => h9) rfl dX3_joint_35 ?_
  refine lv_iload_n hx hb dX3_joint_38 rfl (lv_at hl 0 rfl) ?_
  refine va_iald hx hb hK hP 9 0 rfl rfl (n := 6) (by assumption) dX3_joint_39 ?_
  refine lv_iadd hx hb dX3_joint_40 ?_
  refine lv_goto (tgt := 45) hx hb dX3_joint_41 (by decide) ?_
  have hρ : kX3_joint f x1 = ((f 11 (ix (kX3_leftOf f x1))) + (f 11 (ix (kX3_rightOf f x1)))) := (if_neg c_17).trans ((if_neg c_25))
  exact e_rd hx hb hr hlk dX3_joint_45 hρ.symm
theorem ndX3_canHeal : yX3_canHeal.cls = RX3 ∧ yX3_canHeal.cls ≠ "java/lang/invoke/MethodHandle" ∧ yX3_canHeal.cls ≠ "java/lang/invoke/VarHandle" ∧ (parseMethodDescriptor yX3_canHeal.desc).map (fun d => d.parameters.length) = some 3 := by decide +kernel
set_option maxHeartbeats 4000000 in
set_option maxRecDepth 100000 in
theorem okX3_canHeal (l : Launch) (D : va_G) (cI cZ cQ : ClassId) (h : Nat) (a : Nat → Nat) (X : va_W) (f : Nat → Nat → Int32) (x1 x2 x3 : Int32) (hok : okL f) (h1 : vp_in x1 7) (h2 : vp_in x2 6) (h3 : vp_in x3 6) : Met l yX3_canHeal wsX3_canHeal ({ frames := 2, cells := 0, slots := 0, locals := 44 }) (PR [.ref h, .int x1, .int x2, .int x3] D (TY cI cZ cQ) (LW cI h a f ++ X)) (QR (kX3_canHeal f x1 x2 x3)) 0 0 (fun _ => False) := by
  refine m_rd (cc := cX3_canHeal) (maxL := 4) (ret := (some .boolean)) (by decide) rfl (Nat.le_of_ble_eq_true rfl) (lv0 := [(0, .ref h), (1, .int x1), (2, .int x2), (3, .int x3)]) rfl ?_
  intro p e s m below meth c ls S hr hlk hP hK hl
  have S : CallFix p m c cX3_canHeal 4 s ([.ref h, .int x1, .int x2, .int x3] : List Value).toArray wsX3_canHeal RX3 := S
  have hx := S.1
  have hb := S.2.1
  have hown : s.vm.findClass RX3 = some m.cls := S.2.2.2.1
  have hts := S.2.2.2.2
  have hinX3 : ∀ w ∈ wsX30, w ∈ wsX3_canHeal := by decide +kernel
  refine lv_aload_n hx hb dX3_canHeal_0 rfl (lv_at hl 0 rfl) ?_
  refine va_get (v := .ref (a 10)) (C := RX3) (T := TX3) (N := 15) (ci := 3) hx hb hts hinX3 hown hK hP 0 rfl rfl 10 (by decide) (hts (.fieldLink RX3 33 "AxleKeeper$Line" "sweptOver" "[I") (by decide +kernel)) (fun _ h9 => h9) rfl dX3_canHeal_1 ?_
  refine lv_iload_n hx hb dX3_canHeal_4 rfl (lv_at hl 1 rfl) ?_
  refine va_iald hx hb hK hP 8 0 rfl rfl (n := 7) (by assumption) dX3_canHeal_5 ?_
  refine lv_iconst (v := 1) hx hb dX3_canHeal_6 (by decide) ?_
  refine lv_icmp_ne (tgt := 38) hx hb dX3_canHeal_7 (by decide) (fun c_7 => ?_) (fun c_7 => ?_)
  · have c_7 : ¬ ((f 10 (ix x1)) = 1) := c_7
    refine lv_iconst (v := 0) hx hb dX3_canHeal_38 (by decide) ?_
    have hρ : kX3_canHeal f x1 x2 x3 = 0 := (if_neg c_7)
    exact e_rz hx hb hr hlk dX3_canHeal_39 rfl hρ.symm
  have c_7 : (f 10 (ix x1)) = 1 := c_7
  refine lv_aload_n hx hb dX3_canHeal_10 rfl (lv_at hl 0 rfl) ?_
  refine lv_iload_n hx hb dX3_canHeal_11 rfl (lv_at hl 1 rfl) ?_
  refine k_rd (As := [.int x1]) (rest := []) (bytes := cX3_joint) (C := RX3) S (okX3_joint l D cI cZ cQ h a X f x1 (by assumption)) gX3_canHeal_X3_joint rfl ⟨rfl, rfl⟩ ndX3_joint ⟨Nat.le_of_ble_eq_true rfl, Nat.le_of_ble_eq_true rfl⟩ hK hP 0 rfl rfl rfl hl rfl (Nat.le_of_ble_eq_true rfl) dX3_canHeal_12 ⟨Nat.zero_le _, Nat.zero_le _⟩ ?_
  refine lv_if_ne (tgt := 38) hx hb dX3_canHeal_15 (by decide) (fun c_15 => ?_) (fun c_15 => ?_)
  · have c_15 : ¬ ((kX3_joint f x1) = 0) := c_15
    refine lv_iconst (v := 0) hx hb dX3_canHeal_38 (by decide) ?_
    have hρ : kX3_canHeal f x1 x2 x3 = 0 := (if_pos c_7).trans ((if_neg c_15))
    exact e_rz hx hb hr hlk dX3_canHeal_39 rfl hρ.symm
  have c_15 : (kX3_joint f x1) = 0 := c_15
  refine lv_aload_n hx hb dX3_canHeal_18 rfl (lv_at hl 0 rfl) ?_
  refine lv_iload_n hx hb dX3_canHeal_19 rfl (lv_at hl 2 rfl) ?_
  refine k_rd (As := [.int x2]) (rest := []) (bytes := cX3_hasBadHead) (C := RX3) S (okX3_hasBadHead l D cI cZ cQ h a X f x2 h2) gX3_canHeal_X3_hasBadHead rfl ⟨rfl, rfl⟩ ndX3_hasBadHead ⟨Nat.le_of_ble_eq_true rfl, Nat.le_of_ble_eq_true rfl⟩ hK hP 0 rfl rfl rfl hl rfl (Nat.le_of_ble_eq_true rfl) dX3_canHeal_20 ⟨Nat.zero_le _, Nat.zero_le _⟩ ?_
  refine lv_if_ne (tgt := 38) hx hb dX3_canHeal_23 (by decide) (fun c_23 => ?_) (fun c_23 => ?_)
  · have c_23 : ¬ ((kX3_hasBadHead f x2) = 0) := c_23
    refine lv_iconst (v := 0) hx hb dX3_canHeal_38 (by decide) ?_
    have hρ : kX3_canHeal f x1 x2 x3 = 0 := (if_pos c_7).trans ((if_pos c_15).trans ((if_neg c_23)))
    exact e_rz hx hb hr hlk dX3_canHeal_39 rfl hρ.symm
  have c_23 : (kX3_hasBadHead f x2) = 0 := c_23
  refine lv_aload_n hx hb dX3_canHeal_26 rfl (lv_at hl 0 rfl) ?_
  refine lv_iload_n hx hb dX3_canHeal_27 rfl (lv_at hl 3 rfl) ?_
  refine k_rd (As := [.int x3]) (rest := []) (bytes := cX3_hasBadHead) (C := RX3) S (okX3_hasBadHead l D cI cZ cQ h a X f x3 h3) gX3_canHeal_X3_hasBadHead rfl ⟨rfl, rfl⟩ ndX3_hasBadHead ⟨Nat.le_of_ble_eq_true rfl, Nat.le_of_ble_eq_true rfl⟩ hK hP 0 rfl rfl rfl hl rfl (Nat.le_of_ble_eq_true rfl) dX3_canHeal_28 ⟨Nat.zero_le _, Nat.zero_le _⟩ ?_
  refine lv_if_ne (tgt := 38) hx hb dX3_canHeal_31 (by decide) (fun c_31 => ?_) (fun c_31 => ?_)
  · have c_31 : ¬ ((kX3_hasBadHead f x3) = 0) := c_31
    refine lv_iconst (v := 0) hx hb dX3_canHeal_38 (by decide) ?_
    have hρ : kX3_canHeal f x1 x2 x3 = 0 := (if_pos c_7).trans ((if_pos c_15).trans ((if_pos c_23).trans ((if_neg c_31))))
    exact e_rz hx hb hr hlk dX3_canHeal_39 rfl hρ.symm
  have c_31 : (kX3_hasBadHead f x3) = 0 := c_31
  refine lv_iconst (v := 1) hx hb dX3_canHeal_34 (by decide) ?_
  refine lv_goto (tgt := 39) hx hb dX3_canHeal_35 (by decide) ?_
  have hρ : kX3_canHeal f x1 x2 x3 = 1 := (if_pos c_7).trans ((if_pos c_15).trans ((if_pos c_23).trans ((if_pos c_31))))
  exact e_rz hx hb hr hlk dX3_canHeal_39 rfl hρ.symm
end
section
theorem ndX3_called : yX3_called.cls = RX3 ∧ yX3_called.cls ≠ "java/lang/invoke/MethodHandle" ∧ yX3_called.cls ≠ "java/lang/invoke/VarHandle" ∧ (parseMethodDescriptor yX3_called.desc).map (fun d => d.parameters.length) = some 1 := by decide +kernel
set_option maxHeartbeats 4000000 in
set_option maxRecDepth 100000 in
theorem lpX3_called_4 {p : Program} {e : Env} {s : State} {m : MethodId} {below : List Frame} {meth : Method} {c : Code} (l : Launch) (D : va_G) (cI cZ cQ : ClassId) (h : Nat) (a : Nat → Nat) (X : va_W) (x1 : Int32) (f : Nat → Nat → Int32) (S : CallFix p m c cX3_called 4 s ([.ref h, .int x1] : List Value).toArray wsX3_called RX3) (hr : meth.sig.returnType = (some .int)) (hlk : meth.locks = false) (hK : va_K D vwCl (TY cI cZ cQ) s) (hok : okL f) (hP : va_P D vwCl (LW cI h a f ++ X) s.heap) : ∀ (n i : Nat) (v2 : Int32), i ≤ 6 → 6 - i < n → ∀ {ls : Array Slot}, lv_has ls 4 [(0, .ref h), (1, .int x1), (2, .int v2), (3, .int (nI i))] → ∀ ρ : Int32, ρ = kX3_called_4 x1 n i f v2 → W p l e { frames := 0, cells := 0, slots := 0, locals := 0 } s m ([.ref h, .int x1] : List Value).toArray below meth c s.heap [] 0 0 (MQ below (QR ρ) ([.ref h, .int x1] : List Value).toArray s 0 0 (fun _ => False)) (F0 m 4 ls []) := by
  have hx := S.1
  have hb := S.2.1
  have hown : s.vm.findClass RX3 = some m.cls := S.2.2.2.1
  have hts := S.2.2.2.2
  have hinX3 : ∀ w ∈ wsX30, w ∈ wsX3_called := by decide +kernel
  intro n
  induction n with
  | zero =>
    intro i _ hi hn
    exact absurd hn (Nat.not_lt_zero _)
  | succ n ih =>
    intro i v2 hi hn  ls hl ρ hρ0
    refine lv_iload_n hx hb dX3_called_4 rfl (lv_at hl 3 rfl) ?_
    refine lv_aload_n hx hb dX3_called_5 rfl (lv_at hl 0 rfl) ?_
    refine va_get (v := .int (f 0 0)) (C := RX3) (T := TX3) (N := 15) (ci := 3) hx hb hts hinX3 hown hK hP 0 rfl rfl 0 (by decide) (hts (.fieldLink RX3 48 "AxleKeeper$Line" "sections" "I") (by decide +kernel)) (fun _ h9 => h9) rfl dX3_called_6 ?_
    refine lv_icmp_ge (tgt := 34) hx hb dX3_called_9 (by decide) (fun c_9 => ?_) (fun c_9 => ?_)
    · have c_9 : (f 0 0) ≤ (nI i) := c_9
      refine lv_iload_n hx hb dX3_called_34 rfl (lv_at hl 2 rfl) ?_
      have hρ : kX3_called_4 x1 (n + 1) i f v2 = v2 := (if_pos c_9)
      have hρ := hρ0.trans hρ
      exact e_rd hx hb hr hlk dX3_called_35 hρ.symm
    have c_9 : ¬ ((f 0 0) ≤ (nI i)) := c_9
    have hlt : i < 6 := il_lt hok.2 (by decide) hi c_9
    have hvi : vp_in (nI i) 6 := vp_in_nI hlt (by decide)
    refine lv_aload_n hx hb dX3_called_12 rfl (lv_at hl 0 rfl) ?_
    refine va_get (v := .ref (a 12)) (C := RX3) (T := TX3) (N := 15) (ci := 3) hx hb hts hinX3 hown hK hP 0 rfl rfl 12 (by decide) (hts (.fieldLink RX3 39 "AxleKeeper$Line" "call" "[I") (by decide +kernel)) (fun _ h9 => h9) rfl dX3_called_13 ?_
    refine lv_iload_n hx hb dX3_called_16 rfl (lv_at hl 3 rfl) ?_
    refine va_iald hx hb hK hP 10 0 rfl rfl (n := 6) (by assumption) dX3_called_17 ?_
    refine lv_iload_n hx hb dX3_called_18 rfl (lv_at hl 1 rfl) ?_
    refine lv_icmp_ne (tgt := 28) hx hb dX3_called_19 (by decide) (fun c_19 => ?_) (fun c_19 => ?_)
    · have c_19 : ¬ ((f 12 (ix (nI i))) = x1) := c_19
      refine lv_iinc (v := (nI (i + 1))) (lv' := [(3, .int (nI (i + 1))), (0, .ref h), (1, .int x1), (2, .int v2)]) hx hb dX3_called_28 hl (k := 3) rfl (nI_1 i) (by decide) rfl (fun ls hl => ?_)
      refine lv_goto (tgt := 4) hx hb dX3_called_31 (by decide) ?_
      have hρ : kX3_called_4 x1 (n + 1) i f v2 = kX3_called_4 x1 n (i + 1) f v2 := (if_neg c_9).trans ((if_neg c_19))
      have hρ := hρ0.trans hρ
      exact ih  (i + 1) v2   (by omega) (by omega)  (lv_sub hl [1, 2, 3, 0] rfl) _ hρ
    have c_19 : (f 12 (ix (nI i))) = x1 := c_19
    refine lv_iload_n hx hb dX3_called_22 rfl (lv_at hl 2 rfl) ?_
    refine lv_iconst (v := 1) hx hb dX3_called_23 (by decide) ?_
    refine lv_iload_n hx hb dX3_called_24 rfl (lv_at hl 3 rfl) ?_
    refine lv_ishl hx hb dX3_called_25 ?_
    refine lv_ior hx hb dX3_called_26 ?_
    refine lv_istore_n (lv' := [(2, .int (v2 ||| ((1 : Int32) <<< ((nI i) &&& 31)))), (0, .ref h), (1, .int x1), (3, .int (nI i))]) hx hb dX3_called_27 rfl hl (by decide) rfl (fun ls hl => ?_)
    refine lv_iinc (v := (nI (i + 1))) (lv' := [(3, .int (nI (i + 1))), (2, .int (v2 ||| ((1 : Int32) <<< ((nI i) &&& 31)))), (0, .ref h), (1, .int x1)]) hx hb dX3_called_28 hl (k := 3) rfl (nI_1 i) (by decide) rfl (fun ls hl => ?_)
    refine lv_goto (tgt := 4) hx hb dX3_called_31 (by decide) ?_
    have hρ : kX3_called_4 x1 (n + 1) i f v2 = kX3_called_4 x1 n (i + 1) f (v2 ||| ((1 : Int32) <<< ((nI i) &&& 31))) := (if_neg c_9).trans ((if_pos c_19))
    have hρ := hρ0.trans hρ
    exact ih  (i + 1) (v2 ||| ((1 : Int32) <<< ((nI i) &&& 31)))   (by omega) (by omega)  (lv_sub hl [2, 3, 1, 0] rfl) _ hρ
set_option maxHeartbeats 4000000 in
set_option maxRecDepth 100000 in
theorem okX3_called (l : Launch) (D : va_G) (cI cZ cQ : ClassId) (h : Nat) (a : Nat → Nat) (X : va_W) (f : Nat → Nat → Int32) (x1 : Int32) (hok : okL f) : Met l yX3_called wsX3_called ({ frames := 0, cells := 0, slots := 0, locals := 0 }) (PR [.ref h, .int x1] D (TY cI cZ cQ) (LW cI h a f ++ X)) (QR (kX3_called f x1)) 0 0 (fun _ => False) := by
  refine m_rd (cc := cX3_called) (maxL := 4) (ret := (some .int)) (by decide) rfl (Nat.le_of_ble_eq_true rfl) (lv0 := [(0, .ref h), (1, .int x1)]) rfl ?_
  intro p e s m below meth c ls S hr hlk hP hK hl
  have S : CallFix p m c cX3_called 4 s ([.ref h, .int x1] : List Value).toArray wsX3_called RX3 := S
  have hx := S.1
  have hb := S.2.1
  have hown : s.vm.findClass RX3 = some m.cls := S.2.2.2.1
  have hts := S.2.2.2.2
  have hinX3 : ∀ w ∈ wsX30, w ∈ wsX3_called := by decide +kernel
  refine lv_iconst (v := 0) hx hb dX3_called_0 (by decide) ?_
  refine lv_istore_n (lv' := [(2, .int 0), (0, .ref h), (1, .int x1)]) hx hb dX3_called_1 rfl hl (by decide) rfl (fun ls hl => ?_)
  refine lv_iconst (v := 0) hx hb dX3_called_2 (by decide) ?_
  refine lv_istore_n (lv' := [(3, .int 0), (2, .int 0), (0, .ref h), (1, .int x1)]) hx hb dX3_called_3 rfl hl (by decide) rfl (fun ls hl => ?_)
  have hρ : kX3_called f x1 = kX3_called_4 x1 7 0 f 0 := rfl
  exact lpX3_called_4 l D cI cZ cQ h a X x1 f S hr hlk hK hok hP 7 0 0   (by omega) (by omega)  (lv_sub hl [2, 3, 1, 0] rfl) _ hρ
theorem ndX3_empty : yX3_empty.cls = RX3 ∧ yX3_empty.cls ≠ "java/lang/invoke/MethodHandle" ∧ yX3_empty.cls ≠ "java/lang/invoke/VarHandle" ∧ (parseMethodDescriptor yX3_empty.desc).map (fun d => d.parameters.length) = some 0 := by decide +kernel
set_option maxHeartbeats 4000000 in
set_option maxRecDepth 100000 in
theorem lpX3_empty_4 {p : Program} {e : Env} {s : State} {m : MethodId} {below : List Frame} {meth : Method} {c : Code} (l : Launch) (D : va_G) (cI cZ cQ : ClassId) (h : Nat) (a : Nat → Nat) (X : va_W) (f : Nat → Nat → Int32) (S : CallFix p m c cX3_empty 3 s ([.ref h] : List Value).toArray wsX3_empty RX3) (hr : meth.sig.returnType = (some .int)) (hlk : meth.locks = false) (hK : va_K D vwCl (TY cI cZ cQ) s) (hok : okL f) (hP : va_P D vwCl (LW cI h a f ++ X) s.heap) : ∀ (n i : Nat) (v1 : Int32), i ≤ 6 → 6 - i < n → ∀ {ls : Array Slot}, lv_has ls 3 [(0, .ref h), (1, .int v1), (2, .int (nI i))] → ∀ ρ : Int32, ρ = kX3_empty_4  n i f v1 → W p l e { frames := 0, cells := 0, slots := 0, locals := 0 } s m ([.ref h] : List Value).toArray below meth c s.heap [] 0 0 (MQ below (QR ρ) ([.ref h] : List Value).toArray s 0 0 (fun _ => False)) (F0 m 4 ls []) := by
  have hx := S.1
  have hb := S.2.1
  have hown : s.vm.findClass RX3 = some m.cls := S.2.2.2.1
  have hts := S.2.2.2.2
  have hinX3 : ∀ w ∈ wsX30, w ∈ wsX3_empty := by decide +kernel
  intro n
  induction n with
  | zero =>
    intro i _ hi hn
    exact absurd hn (Nat.not_lt_zero _)
  | succ n ih =>
    intro i v1 hi hn  ls hl ρ hρ0
    refine lv_iload_n hx hb dX3_empty_4 rfl (lv_at hl 2 rfl) ?_
    refine lv_aload_n hx hb dX3_empty_5 rfl (lv_at hl 0 rfl) ?_
    refine va_get (v := .int (f 0 0)) (C := RX3) (T := TX3) (N := 15) (ci := 3) hx hb hts hinX3 hown hK hP 0 rfl rfl 0 (by decide) (hts (.fieldLink RX3 48 "AxleKeeper$Line" "sections" "I") (by decide +kernel)) (fun _ h9 => h9) rfl dX3_empty_6 ?_
    refine lv_icmp_ge (tgt := 33) hx hb dX3_empty_9 (by decide) (fun c_9 => ?_) (fun c_9 => ?_)
    · have c_9 : (f 0 0) ≤ (nI i) := c_9
      refine lv_iload_n hx hb dX3_empty_33 rfl (lv_at hl 1 rfl) ?_
      have hρ : kX3_empty_4  (n + 1) i f v1 = v1 := (if_pos c_9)
      have hρ := hρ0.trans hρ
      exact e_rd hx hb hr hlk dX3_empty_34 hρ.symm
    have c_9 : ¬ ((f 0 0) ≤ (nI i)) := c_9
    have hlt : i < 6 := il_lt hok.2 (by decide) hi c_9
    have hvi : vp_in (nI i) 6 := vp_in_nI hlt (by decide)
    refine lv_aload_n hx hb dX3_empty_12 rfl (lv_at hl 0 rfl) ?_
    refine va_get (v := .ref (a 14)) (C := RX3) (T := TX3) (N := 15) (ci := 3) hx hb hts hinX3 hown hK hP 0 rfl rfl 14 (by decide) (hts (.fieldLink RX3 45 "AxleKeeper$Line" "axles" "[I") (by decide +kernel)) (fun _ h9 => h9) rfl dX3_empty_13 ?_
    refine lv_iload_n hx hb dX3_empty_16 rfl (lv_at hl 2 rfl) ?_
    refine va_iald hx hb hK hP 12 0 rfl rfl (n := 6) (by assumption) dX3_empty_17 ?_
    refine lv_if_ne (tgt := 27) hx hb dX3_empty_18 (by decide) (fun c_18 => ?_) (fun c_18 => ?_)
    · have c_18 : ¬ ((f 14 (ix (nI i))) = 0) := c_18
      refine lv_iinc (v := (nI (i + 1))) (lv' := [(2, .int (nI (i + 1))), (0, .ref h), (1, .int v1)]) hx hb dX3_empty_27 hl (k := 2) rfl (nI_1 i) (by decide) rfl (fun ls hl => ?_)
      refine lv_goto (tgt := 4) hx hb dX3_empty_30 (by decide) ?_
      have hρ : kX3_empty_4  (n + 1) i f v1 = kX3_empty_4  n (i + 1) f v1 := (if_neg c_9).trans ((if_neg c_18))
      have hρ := hρ0.trans hρ
      exact ih  (i + 1) v1   (by omega) (by omega)  (lv_sub hl [1, 2, 0] rfl) _ hρ
    have c_18 : (f 14 (ix (nI i))) = 0 := c_18
    refine lv_iload_n hx hb dX3_empty_21 rfl (lv_at hl 1 rfl) ?_
    refine lv_iconst (v := 1) hx hb dX3_empty_22 (by decide) ?_
    refine lv_iload_n hx hb dX3_empty_23 rfl (lv_at hl 2 rfl) ?_
    refine lv_ishl hx hb dX3_empty_24 ?_
    refine lv_ior hx hb dX3_empty_25 ?_
    refine lv_istore_n (lv' := [(1, .int (v1 ||| ((1 : Int32) <<< ((nI i) &&& 31)))), (0, .ref h), (2, .int (nI i))]) hx hb dX3_empty_26 rfl hl (by decide) rfl (fun ls hl => ?_)
    refine lv_iinc (v := (nI (i + 1))) (lv' := [(2, .int (nI (i + 1))), (1, .int (v1 ||| ((1 : Int32) <<< ((nI i) &&& 31)))), (0, .ref h)]) hx hb dX3_empty_27 hl (k := 2) rfl (nI_1 i) (by decide) rfl (fun ls hl => ?_)
    refine lv_goto (tgt := 4) hx hb dX3_empty_30 (by decide) ?_
    have hρ : kX3_empty_4  (n + 1) i f v1 = kX3_empty_4  n (i + 1) f (v1 ||| ((1 : Int32) <<< ((nI i) &&& 31))) := (if_neg c_9).trans ((if_pos c_18))
    have hρ := hρ0.trans hρ
    exact ih  (i + 1) (v1 ||| ((1 : Int32) <<< ((nI i) &&& 31)))   (by omega) (by omega)  (lv_sub hl [2, 1, 0] rfl) _ hρ
set_option maxHeartbeats 4000000 in
set_option maxRecDepth 100000 in
theorem okX3_empty (l : Launch) (D : va_G) (cI cZ cQ : ClassId) (h : Nat) (a : Nat → Nat) (X : va_W) (f : Nat → Nat → Int32) (hok : okL f) : Met l yX3_empty wsX3_empty ({ frames := 0, cells := 0, slots := 0, locals := 0 }) (PR [.ref h] D (TY cI cZ cQ) (LW cI h a f ++ X)) (QR (kX3_empty f)) 0 0 (fun _ => False) := by
  refine m_rd (cc := cX3_empty) (maxL := 3) (ret := (some .int)) (by decide) rfl (Nat.le_of_ble_eq_true rfl) (lv0 := [(0, .ref h)]) rfl ?_
  intro p e s m below meth c ls S hr hlk hP hK hl
  have S : CallFix p m c cX3_empty 3 s ([.ref h] : List Value).toArray wsX3_empty RX3 := S
  have hx := S.1
  have hb := S.2.1
  have hown : s.vm.findClass RX3 = some m.cls := S.2.2.2.1
  have hts := S.2.2.2.2
  have hinX3 : ∀ w ∈ wsX30, w ∈ wsX3_empty := by decide +kernel
  refine lv_iconst (v := 0) hx hb dX3_empty_0 (by decide) ?_
  refine lv_istore_n (lv' := [(1, .int 0), (0, .ref h)]) hx hb dX3_empty_1 rfl hl (by decide) rfl (fun ls hl => ?_)
  refine lv_iconst (v := 0) hx hb dX3_empty_2 (by decide) ?_
  refine lv_istore_n (lv' := [(2, .int 0), (1, .int 0), (0, .ref h)]) hx hb dX3_empty_3 rfl hl (by decide) rfl (fun ls hl => ?_)
  have hρ : kX3_empty f = kX3_empty_4  7 0 f 0 := rfl
  exact lpX3_empty_4 l D cI cZ cQ h a X f S hr hlk hK hok hP 7 0 0   (by omega) (by omega)  (lv_sub hl [2, 1, 0] rfl) _ hρ
theorem ndX3_wronglyClear : yX3_wronglyClear.cls = RX3 ∧ yX3_wronglyClear.cls ≠ "java/lang/invoke/MethodHandle" ∧ yX3_wronglyClear.cls ≠ "java/lang/invoke/VarHandle" ∧ (parseMethodDescriptor yX3_wronglyClear.desc).map (fun d => d.parameters.length) = some 0 := by decide +kernel
set_option maxHeartbeats 4000000 in
set_option maxRecDepth 100000 in
theorem okX3_wronglyClear (l : Launch) (D : va_G) (cI cZ cQ : ClassId) (h : Nat) (a : Nat → Nat) (X : va_W) (f : Nat → Nat → Int32) (hok : okL f) : Met l yX3_wronglyClear wsX3_wronglyClear ({ frames := 1, cells := 0, slots := 0, locals := 23 }) (PR [.ref h] D (TY cI cZ cQ) (LW cI h a f ++ X)) (QR (kX3_wronglyClear f)) 0 0 (fun _ => False) := by
  refine m_rd (cc := cX3_wronglyClear) (maxL := 1) (ret := (some .int)) (by decide) rfl (Nat.le_of_ble_eq_true rfl) (lv0 := [(0, .ref h)]) rfl ?_
  intro p e s m below meth c ls S hr hlk hP hK hl
  have S : CallFix p m c cX3_wronglyClear 1 s ([.ref h] : List Value).toArray wsX3_wronglyClear RX3 := S
  have hx := S.1
  have hb := S.2.1
  have hown : s.vm.findClass RX3 = some m.cls := S.2.2.2.1
  have hts := S.2.2.2.2
  refine lv_aload_n hx hb dX3_wronglyClear_0 rfl (lv_at hl 0 rfl) ?_
  refine lv_iconst (v := 0) hx hb dX3_wronglyClear_1 (by decide) ?_
  refine k_rd (As := [.int 0]) (rest := []) (bytes := cX3_called) (C := RX3) S (okX3_called l D cI cZ cQ h a X f 0 (by assumption)) gX3_wronglyClear_X3_called rfl ⟨rfl, rfl⟩ ndX3_called ⟨Nat.le_of_ble_eq_true rfl, Nat.le_of_ble_eq_true rfl⟩ hK hP 0 rfl rfl rfl hl rfl (Nat.le_of_ble_eq_true rfl) dX3_wronglyClear_2 ⟨Nat.zero_le _, Nat.zero_le _⟩ ?_
  refine lv_aload_n hx hb dX3_wronglyClear_5 rfl (lv_at hl 0 rfl) ?_
  refine k_rd (As := []) (rest := [.int (kX3_called f 0)]) (bytes := cX3_empty) (C := RX3) S (okX3_empty l D cI cZ cQ h a X f  (by assumption)) gX3_wronglyClear_X3_empty rfl ⟨rfl, rfl⟩ ndX3_empty ⟨Nat.le_of_ble_eq_true rfl, Nat.le_of_ble_eq_true rfl⟩ hK hP 0 rfl rfl rfl hl rfl (Nat.le_of_ble_eq_true rfl) dX3_wronglyClear_6 ⟨Nat.zero_le _, Nat.zero_le _⟩ ?_
  refine lv_iconst (v := (-1)) hx hb dX3_wronglyClear_9 (by decide) ?_
  refine lv_ixor hx hb dX3_wronglyClear_10 ?_
  refine lv_iand hx hb dX3_wronglyClear_11 ?_
  have hρ : kX3_wronglyClear f = ((kX3_called f 0) &&& ((kX3_empty f) ^^^ (-1))) := rfl
  exact e_rd hx hb hr hlk dX3_wronglyClear_12 hρ.symm
theorem ndX3_idle : yX3_idle.cls = RX3 ∧ yX3_idle.cls ≠ "java/lang/invoke/MethodHandle" ∧ yX3_idle.cls ≠ "java/lang/invoke/VarHandle" ∧ (parseMethodDescriptor yX3_idle.desc).map (fun d => d.parameters.length) = some 0 := by decide +kernel
set_option maxHeartbeats 4000000 in
set_option maxRecDepth 100000 in
theorem okX3_idle (l : Launch) (D : va_G) (cI cZ cQ : ClassId) (h : Nat) (a : Nat → Nat) (X : va_W) (f : Nat → Nat → Int32) (hok : okL f) : Met l yX3_idle wsX3_idle ({ frames := 1, cells := 0, slots := 0, locals := 23 }) (PR [.ref h] D (TY cI cZ cQ) (LW cI h a f ++ X)) (QR (kX3_idle f)) 0 0 (fun _ => False) := by
  refine m_rd (cc := cX3_idle) (maxL := 1) (ret := (some .int)) (by decide) rfl (Nat.le_of_ble_eq_true rfl) (lv0 := [(0, .ref h)]) rfl ?_
  intro p e s m below meth c ls S hr hlk hP hK hl
  have S : CallFix p m c cX3_idle 1 s ([.ref h] : List Value).toArray wsX3_idle RX3 := S
  have hx := S.1
  have hb := S.2.1
  have hown : s.vm.findClass RX3 = some m.cls := S.2.2.2.1
  have hts := S.2.2.2.2
  refine lv_aload_n hx hb dX3_idle_0 rfl (lv_at hl 0 rfl) ?_
  refine k_rd (As := []) (rest := []) (bytes := cX3_empty) (C := RX3) S (okX3_empty l D cI cZ cQ h a X f  (by assumption)) gX3_idle_X3_empty rfl ⟨rfl, rfl⟩ ndX3_empty ⟨Nat.le_of_ble_eq_true rfl, Nat.le_of_ble_eq_true rfl⟩ hK hP 0 rfl rfl rfl hl rfl (Nat.le_of_ble_eq_true rfl) dX3_idle_1 ⟨Nat.zero_le _, Nat.zero_le _⟩ ?_
  refine lv_aload_n hx hb dX3_idle_4 rfl (lv_at hl 0 rfl) ?_
  refine lv_iconst (v := 0) hx hb dX3_idle_5 (by decide) ?_
  refine k_rd (As := [.int 0]) (rest := [.int (kX3_empty f)]) (bytes := cX3_called) (C := RX3) S (okX3_called l D cI cZ cQ h a X f 0 (by assumption)) gX3_idle_X3_called rfl ⟨rfl, rfl⟩ ndX3_called ⟨Nat.le_of_ble_eq_true rfl, Nat.le_of_ble_eq_true rfl⟩ hK hP 0 rfl rfl rfl hl rfl (Nat.le_of_ble_eq_true rfl) dX3_idle_6 ⟨Nat.zero_le _, Nat.zero_le _⟩ ?_
  refine lv_iconst (v := (-1)) hx hb dX3_idle_9 (by decide) ?_
  refine lv_ixor hx hb dX3_idle_10 ?_
  refine lv_iand hx hb dX3_idle_11 ?_
  have hρ : kX3_idle f = ((kX3_empty f) &&& ((kX3_called f 0) ^^^ (-1))) := rfl
  exact e_rd hx hb hr hlk dX3_idle_12 hρ.symm
theorem ndX3_faultyHeads : yX3_faultyHeads.cls = RX3 ∧ yX3_faultyHeads.cls ≠ "java/lang/invoke/MethodHandle" ∧ yX3_faultyHeads.cls ≠ "java/lang/invoke/VarHandle" ∧ (parseMethodDescriptor yX3_faultyHeads.desc).map (fun d => d.parameters.length) = some 0 := by decide +kernel
set_option maxHeartbeats 4000000 in
set_option maxRecDepth 100000 in
theorem lpX3_faultyHeads_4 {p : Program} {e : Env} {s : State} {m : MethodId} {below : List Frame} {meth : Method} {c : Code} (l : Launch) (D : va_G) (cI cZ cQ : ClassId) (h : Nat) (a : Nat → Nat) (X : va_W) (f : Nat → Nat → Int32) (S : CallFix p m c cX3_faultyHeads 3 s ([.ref h] : List Value).toArray wsX3_faultyHeads RX3) (hr : meth.sig.returnType = (some .int)) (hlk : meth.locks = false) (hK : va_K D vwCl (TY cI cZ cQ) s) (hok : okL f) (hP : va_P D vwCl (LW cI h a f ++ X) s.heap) : ∀ (n i : Nat) (v1 : Int32), i ≤ 7 → 7 - i < n → ∀ {ls : Array Slot}, lv_has ls 3 [(0, .ref h), (1, .int v1), (2, .int (nI i))] → ∀ ρ : Int32, ρ = kX3_faultyHeads_4  n i f v1 → W p l e { frames := 1, cells := 0, slots := 0, locals := 20 } s m ([.ref h] : List Value).toArray below meth c s.heap [] 0 0 (MQ below (QR ρ) ([.ref h] : List Value).toArray s 0 0 (fun _ => False)) (F0 m 4 ls []) := by
  have hx := S.1
  have hb := S.2.1
  have hown : s.vm.findClass RX3 = some m.cls := S.2.2.2.1
  have hts := S.2.2.2.2
  have hinX3 : ∀ w ∈ wsX30, w ∈ wsX3_faultyHeads := by decide +kernel
  intro n
  induction n with
  | zero =>
    intro i _ hi hn
    exact absurd hn (Nat.not_lt_zero _)
  | succ n ih =>
    intro i v1 hi hn  ls hl ρ hρ0
    refine lv_iload_n hx hb dX3_faultyHeads_4 rfl (lv_at hl 2 rfl) ?_
    refine lv_aload_n hx hb dX3_faultyHeads_5 rfl (lv_at hl 0 rfl) ?_
    refine k_rd (As := []) (rest := [.int (nI i)]) (bytes := cX3_heads) (C := RX3) S (okX3_heads l D cI cZ cQ h a X f ) gX3_faultyHeads_X3_heads rfl ⟨rfl, rfl⟩ ndX3_heads ⟨Nat.le_of_ble_eq_true rfl, Nat.le_of_ble_eq_true rfl⟩ hK hP 0 rfl rfl rfl hl rfl (Nat.le_of_ble_eq_true rfl) dX3_faultyHeads_6 ⟨Nat.zero_le _, Nat.zero_le _⟩ ?_
    refine lv_icmp_ge (tgt := 29) hx hb dX3_faultyHeads_9 (by decide) (fun c_9 => ?_) (fun c_9 => ?_)
    · have c_9 : (kX3_heads f) ≤ (nI i) := c_9
      refine lv_iload_n hx hb dX3_faultyHeads_29 rfl (lv_at hl 1 rfl) ?_
      have hρ : kX3_faultyHeads_4  (n + 1) i f v1 = v1 := (if_pos c_9)
      have hρ := hρ0.trans hρ
      exact e_rd hx hb hr hlk dX3_faultyHeads_30 hρ.symm
    have c_9 : ¬ ((kX3_heads f) ≤ (nI i)) := c_9
    have hlt : i < 7 := il_lt (heads_le hok) (by decide) hi c_9
    have hvi : vp_in (nI i) 7 := vp_in_nI hlt (by decide)
    refine lv_iload_n hx hb dX3_faultyHeads_12 rfl (lv_at hl 1 rfl) ?_
    refine lv_aload_n hx hb dX3_faultyHeads_13 rfl (lv_at hl 0 rfl) ?_
    refine va_get (v := .ref (a 6)) (C := RX3) (T := TX3) (N := 15) (ci := 3) hx hb hts hinX3 hown hK hP 0 rfl rfl 6 (by decide) (hts (.fieldLink RX3 21 "AxleKeeper$Line" "faulty" "[I") (by decide +kernel)) (fun _ h9 => h9) rfl dX3_faultyHeads_14 ?_
    refine lv_iload_n hx hb dX3_faultyHeads_17 rfl (lv_at hl 2 rfl) ?_
    refine va_iald hx hb hK hP 4 0 rfl rfl (n := 7) (by assumption) dX3_faultyHeads_18 ?_
    refine lv_iload_n hx hb dX3_faultyHeads_19 rfl (lv_at hl 2 rfl) ?_
    refine lv_ishl hx hb dX3_faultyHeads_20 ?_
    refine lv_ior hx hb dX3_faultyHeads_21 ?_
    refine lv_istore_n (lv' := [(1, .int (v1 ||| ((f 6 (ix (nI i))) <<< ((nI i) &&& 31)))), (0, .ref h), (2, .int (nI i))]) hx hb dX3_faultyHeads_22 rfl hl (by decide) rfl (fun ls hl => ?_)
    refine lv_iinc (v := (nI (i + 1))) (lv' := [(2, .int (nI (i + 1))), (1, .int (v1 ||| ((f 6 (ix (nI i))) <<< ((nI i) &&& 31)))), (0, .ref h)]) hx hb dX3_faultyHeads_23 hl (k := 2) rfl (nI_1 i) (by decide) rfl (fun ls hl => ?_)
    refine lv_goto (tgt := 4) hx hb dX3_faultyHeads_26 (by decide) ?_
    have hρ : kX3_faultyHeads_4  (n + 1) i f v1 = kX3_faultyHeads_4  n (i + 1) f (v1 ||| ((f 6 (ix (nI i))) <<< ((nI i) &&& 31))) := (if_neg c_9)
    have hρ := hρ0.trans hρ
    exact ih  (i + 1) (v1 ||| ((f 6 (ix (nI i))) <<< ((nI i) &&& 31)))   (by omega) (by omega)  (lv_sub hl [2, 1, 0] rfl) _ hρ
set_option maxHeartbeats 4000000 in
set_option maxRecDepth 100000 in
theorem okX3_faultyHeads (l : Launch) (D : va_G) (cI cZ cQ : ClassId) (h : Nat) (a : Nat → Nat) (X : va_W) (f : Nat → Nat → Int32) (hok : okL f) : Met l yX3_faultyHeads wsX3_faultyHeads ({ frames := 1, cells := 0, slots := 0, locals := 20 }) (PR [.ref h] D (TY cI cZ cQ) (LW cI h a f ++ X)) (QR (kX3_faultyHeads f)) 0 0 (fun _ => False) := by
  refine m_rd (cc := cX3_faultyHeads) (maxL := 3) (ret := (some .int)) (by decide) rfl (Nat.le_of_ble_eq_true rfl) (lv0 := [(0, .ref h)]) rfl ?_
  intro p e s m below meth c ls S hr hlk hP hK hl
  have S : CallFix p m c cX3_faultyHeads 3 s ([.ref h] : List Value).toArray wsX3_faultyHeads RX3 := S
  have hx := S.1
  have hb := S.2.1
  have hown : s.vm.findClass RX3 = some m.cls := S.2.2.2.1
  have hts := S.2.2.2.2
  have hinX3 : ∀ w ∈ wsX30, w ∈ wsX3_faultyHeads := by decide +kernel
  refine lv_iconst (v := 0) hx hb dX3_faultyHeads_0 (by decide) ?_
  refine lv_istore_n (lv' := [(1, .int 0), (0, .ref h)]) hx hb dX3_faultyHeads_1 rfl hl (by decide) rfl (fun ls hl => ?_)
  refine lv_iconst (v := 0) hx hb dX3_faultyHeads_2 (by decide) ?_
  refine lv_istore_n (lv' := [(2, .int 0), (1, .int 0), (0, .ref h)]) hx hb dX3_faultyHeads_3 rfl hl (by decide) rfl (fun ls hl => ?_)
  have hρ : kX3_faultyHeads f = kX3_faultyHeads_4  8 0 f 0 := rfl
  exact lpX3_faultyHeads_4 l D cI cZ cQ h a X f S hr hlk hK hok hP 8 0 0   (by omega) (by omega)  (lv_sub hl [2, 1, 0] rfl) _ hρ
theorem ndX3_axlesInAll : yX3_axlesInAll.cls = RX3 ∧ yX3_axlesInAll.cls ≠ "java/lang/invoke/MethodHandle" ∧ yX3_axlesInAll.cls ≠ "java/lang/invoke/VarHandle" ∧ (parseMethodDescriptor yX3_axlesInAll.desc).map (fun d => d.parameters.length) = some 0 := by decide +kernel
set_option maxHeartbeats 4000000 in
set_option maxRecDepth 100000 in
theorem lpX3_axlesInAll_4 {p : Program} {e : Env} {s : State} {m : MethodId} {below : List Frame} {meth : Method} {c : Code} (l : Launch) (D : va_G) (cI cZ cQ : ClassId) (h : Nat) (a : Nat → Nat) (X : va_W) (f : Nat → Nat → Int32) (S : CallFix p m c cX3_axlesInAll 3 s ([.ref h] : List Value).toArray wsX3_axlesInAll RX3) (hr : meth.sig.returnType = (some .int)) (hlk : meth.locks = false) (hK : va_K D vwCl (TY cI cZ cQ) s) (hok : okL f) (hP : va_P D vwCl (LW cI h a f ++ X) s.heap) : ∀ (n i : Nat) (v1 : Int32), i ≤ 6 → 6 - i < n → ∀ {ls : Array Slot}, lv_has ls 3 [(0, .ref h), (1, .int v1), (2, .int (nI i))] → ∀ ρ : Int32, ρ = kX3_axlesInAll_4  n i f v1 → W p l e { frames := 0, cells := 0, slots := 0, locals := 0 } s m ([.ref h] : List Value).toArray below meth c s.heap [] 0 0 (MQ below (QR ρ) ([.ref h] : List Value).toArray s 0 0 (fun _ => False)) (F0 m 4 ls []) := by
  have hx := S.1
  have hb := S.2.1
  have hown : s.vm.findClass RX3 = some m.cls := S.2.2.2.1
  have hts := S.2.2.2.2
  have hinX3 : ∀ w ∈ wsX30, w ∈ wsX3_axlesInAll := by decide +kernel
  intro n
  induction n with
  | zero =>
    intro i _ hi hn
    exact absurd hn (Nat.not_lt_zero _)
  | succ n ih =>
    intro i v1 hi hn  ls hl ρ hρ0
    refine lv_iload_n hx hb dX3_axlesInAll_4 rfl (lv_at hl 2 rfl) ?_
    refine lv_aload_n hx hb dX3_axlesInAll_5 rfl (lv_at hl 0 rfl) ?_
    refine va_get (v := .int (f 0 0)) (C := RX3) (T := TX3) (N := 15) (ci := 3) hx hb hts hinX3 hown hK hP 0 rfl rfl 0 (by decide) (hts (.fieldLink RX3 48 "AxleKeeper$Line" "sections" "I") (by decide +kernel)) (fun _ h9 => h9) rfl dX3_axlesInAll_6 ?_
    refine lv_icmp_ge (tgt := 27) hx hb dX3_axlesInAll_9 (by decide) (fun c_9 => ?_) (fun c_9 => ?_)
    · have c_9 : (f 0 0) ≤ (nI i) := c_9
      refine lv_iload_n hx hb dX3_axlesInAll_27 rfl (lv_at hl 1 rfl) ?_
      have hρ : kX3_axlesInAll_4  (n + 1) i f v1 = v1 := (if_pos c_9)
      have hρ := hρ0.trans hρ
      exact e_rd hx hb hr hlk dX3_axlesInAll_28 hρ.symm
    have c_9 : ¬ ((f 0 0) ≤ (nI i)) := c_9
    have hlt : i < 6 := il_lt hok.2 (by decide) hi c_9
    have hvi : vp_in (nI i) 6 := vp_in_nI hlt (by decide)
    refine lv_iload_n hx hb dX3_axlesInAll_12 rfl (lv_at hl 1 rfl) ?_
    refine lv_aload_n hx hb dX3_axlesInAll_13 rfl (lv_at hl 0 rfl) ?_
    refine va_get (v := .ref (a 14)) (C := RX3) (T := TX3) (N := 15) (ci := 3) hx hb hts hinX3 hown hK hP 0 rfl rfl 14 (by decide) (hts (.fieldLink RX3 45 "AxleKeeper$Line" "axles" "[I") (by decide +kernel)) (fun _ h9 => h9) rfl dX3_axlesInAll_14 ?_
    refine lv_iload_n hx hb dX3_axlesInAll_17 rfl (lv_at hl 2 rfl) ?_
    refine va_iald hx hb hK hP 12 0 rfl rfl (n := 6) (by assumption) dX3_axlesInAll_18 ?_
    refine lv_iadd hx hb dX3_axlesInAll_19 ?_
    refine lv_istore_n (lv' := [(1, .int (v1 + (f 14 (ix (nI i))))), (0, .ref h), (2, .int (nI i))]) hx hb dX3_axlesInAll_20 rfl hl (by decide) rfl (fun ls hl => ?_)
    refine lv_iinc (v := (nI (i + 1))) (lv' := [(2, .int (nI (i + 1))), (1, .int (v1 + (f 14 (ix (nI i))))), (0, .ref h)]) hx hb dX3_axlesInAll_21 hl (k := 2) rfl (nI_1 i) (by decide) rfl (fun ls hl => ?_)
    refine lv_goto (tgt := 4) hx hb dX3_axlesInAll_24 (by decide) ?_
    have hρ : kX3_axlesInAll_4  (n + 1) i f v1 = kX3_axlesInAll_4  n (i + 1) f (v1 + (f 14 (ix (nI i)))) := (if_neg c_9)
    have hρ := hρ0.trans hρ
    exact ih  (i + 1) (v1 + (f 14 (ix (nI i))))   (by omega) (by omega)  (lv_sub hl [2, 1, 0] rfl) _ hρ
set_option maxHeartbeats 4000000 in
set_option maxRecDepth 100000 in
theorem okX3_axlesInAll (l : Launch) (D : va_G) (cI cZ cQ : ClassId) (h : Nat) (a : Nat → Nat) (X : va_W) (f : Nat → Nat → Int32) (hok : okL f) : Met l yX3_axlesInAll wsX3_axlesInAll ({ frames := 0, cells := 0, slots := 0, locals := 0 }) (PR [.ref h] D (TY cI cZ cQ) (LW cI h a f ++ X)) (QR (kX3_axlesInAll f)) 0 0 (fun _ => False) := by
  refine m_rd (cc := cX3_axlesInAll) (maxL := 3) (ret := (some .int)) (by decide) rfl (Nat.le_of_ble_eq_true rfl) (lv0 := [(0, .ref h)]) rfl ?_
  intro p e s m below meth c ls S hr hlk hP hK hl
  have S : CallFix p m c cX3_axlesInAll 3 s ([.ref h] : List Value).toArray wsX3_axlesInAll RX3 := S
  have hx := S.1
  have hb := S.2.1
  have hown : s.vm.findClass RX3 = some m.cls := S.2.2.2.1
  have hts := S.2.2.2.2
  have hinX3 : ∀ w ∈ wsX30, w ∈ wsX3_axlesInAll := by decide +kernel
  refine lv_iconst (v := 0) hx hb dX3_axlesInAll_0 (by decide) ?_
  refine lv_istore_n (lv' := [(1, .int 0), (0, .ref h)]) hx hb dX3_axlesInAll_1 rfl hl (by decide) rfl (fun ls hl => ?_)
  refine lv_iconst (v := 0) hx hb dX3_axlesInAll_2 (by decide) ?_
  refine lv_istore_n (lv' := [(2, .int 0), (1, .int 0), (0, .ref h)]) hx hb dX3_axlesInAll_3 rfl hl (by decide) rfl (fun ls hl => ?_)
  have hρ : kX3_axlesInAll f = kX3_axlesInAll_4  7 0 f 0 := rfl
  exact lpX3_axlesInAll_4 l D cI cZ cQ h a X f S hr hlk hK hok hP 7 0 0   (by omega) (by omega)  (lv_sub hl [2, 1, 0] rfl) _ hρ
theorem ndX3_sumOfAll : yX3_sumOfAll.cls = RX3 ∧ yX3_sumOfAll.cls ≠ "java/lang/invoke/MethodHandle" ∧ yX3_sumOfAll.cls ≠ "java/lang/invoke/VarHandle" ∧ (parseMethodDescriptor yX3_sumOfAll.desc).map (fun d => d.parameters.length) = some 0 := by decide +kernel
set_option maxHeartbeats 4000000 in
set_option maxRecDepth 100000 in
theorem lpX3_sumOfAll_4 {p : Program} {e : Env} {s : State} {m : MethodId} {below : List Frame} {meth : Method} {c : Code} (l : Launch) (D : va_G) (cI cZ cQ : ClassId) (h : Nat) (a : Nat → Nat) (X : va_W) (f : Nat → Nat → Int32) (S : CallFix p m c cX3_sumOfAll 3 s ([.ref h] : List Value).toArray wsX3_sumOfAll RX3) (hr : meth.sig.returnType = (some .int)) (hlk : meth.locks = false) (hK : va_K D vwCl (TY cI cZ cQ) s) (hok : okL f) (hP : va_P D vwCl (LW cI h a f ++ X) s.heap) : ∀ (n i : Nat) (v1 : Int32), i ≤ 6 → 6 - i < n → ∀ {ls : Array Slot}, lv_has ls 3 [(0, .ref h), (1, .int v1), (2, .int (nI i))] → ∀ ρ : Int32, ρ = kX3_sumOfAll_4  n i f v1 → W p l e { frames := 0, cells := 0, slots := 0, locals := 0 } s m ([.ref h] : List Value).toArray below meth c s.heap [] 0 0 (MQ below (QR ρ) ([.ref h] : List Value).toArray s 0 0 (fun _ => False)) (F0 m 4 ls []) := by
  have hx := S.1
  have hb := S.2.1
  have hown : s.vm.findClass RX3 = some m.cls := S.2.2.2.1
  have hts := S.2.2.2.2
  have hinX3 : ∀ w ∈ wsX30, w ∈ wsX3_sumOfAll := by decide +kernel
  intro n
  induction n with
  | zero =>
    intro i _ hi hn
    exact absurd hn (Nat.not_lt_zero _)
  | succ n ih =>
    intro i v1 hi hn  ls hl ρ hρ0
    refine lv_iload_n hx hb dX3_sumOfAll_4 rfl (lv_at hl 2 rfl) ?_
    refine lv_aload_n hx hb dX3_sumOfAll_5 rfl (lv_at hl 0 rfl) ?_
    refine va_get (v := .int (f 0 0)) (C := RX3) (T := TX3) (N := 15) (ci := 3) hx hb hts hinX3 hown hK hP 0 rfl rfl 0 (by decide) (hts (.fieldLink RX3 48 "AxleKeeper$Line" "sections" "I") (by decide +kernel)) (fun _ h9 => h9) rfl dX3_sumOfAll_6 ?_
    refine lv_icmp_ge (tgt := 27) hx hb dX3_sumOfAll_9 (by decide) (fun c_9 => ?_) (fun c_9 => ?_)
    · have c_9 : (f 0 0) ≤ (nI i) := c_9
      refine lv_iload_n hx hb dX3_sumOfAll_27 rfl (lv_at hl 1 rfl) ?_
      have hρ : kX3_sumOfAll_4  (n + 1) i f v1 = v1 := (if_pos c_9)
      have hρ := hρ0.trans hρ
      exact e_rd hx hb hr hlk dX3_sumOfAll_28 hρ.symm
    have c_9 : ¬ ((f 0 0) ≤ (nI i)) := c_9
    have hlt : i < 6 := il_lt hok.2 (by decide) hi c_9
    have hvi : vp_in (nI i) 6 := vp_in_nI hlt (by decide)
    refine lv_iload_n hx hb dX3_sumOfAll_12 rfl (lv_at hl 1 rfl) ?_
    refine lv_aload_n hx hb dX3_sumOfAll_13 rfl (lv_at hl 0 rfl) ?_
    refine va_get (v := .ref (a 11)) (C := RX3) (T := TX3) (N := 15) (ci := 3) hx hb hts hinX3 hown hK hP 0 rfl rfl 11 (by decide) (hts (.fieldLink RX3 36 "AxleKeeper$Line" "sum" "[I") (by decide +kernel)) (fun _ h9 => h9) rfl dX3_sumOfAll_14 ?_
    refine lv_iload_n hx hb dX3_sumOfAll_17 rfl (lv_at hl 2 rfl) ?_
    refine va_iald hx hb hK hP 9 0 rfl rfl (n := 6) (by assumption) dX3_sumOfAll_18 ?_
    refine lv_iadd hx hb dX3_sumOfAll_19 ?_
    refine lv_istore_n (lv' := [(1, .int (v1 + (f 11 (ix (nI i))))), (0, .ref h), (2, .int (nI i))]) hx hb dX3_sumOfAll_20 rfl hl (by decide) rfl (fun ls hl => ?_)
    refine lv_iinc (v := (nI (i + 1))) (lv' := [(2, .int (nI (i + 1))), (1, .int (v1 + (f 11 (ix (nI i))))), (0, .ref h)]) hx hb dX3_sumOfAll_21 hl (k := 2) rfl (nI_1 i) (by decide) rfl (fun ls hl => ?_)
    refine lv_goto (tgt := 4) hx hb dX3_sumOfAll_24 (by decide) ?_
    have hρ : kX3_sumOfAll_4  (n + 1) i f v1 = kX3_sumOfAll_4  n (i + 1) f (v1 + (f 11 (ix (nI i)))) := (if_neg c_9)
    have hρ := hρ0.trans hρ
    exact ih  (i + 1) (v1 + (f 11 (ix (nI i))))   (by omega) (by omega)  (lv_sub hl [2, 1, 0] rfl) _ hρ
set_option maxHeartbeats 4000000 in
set_option maxRecDepth 100000 in
theorem okX3_sumOfAll (l : Launch) (D : va_G) (cI cZ cQ : ClassId) (h : Nat) (a : Nat → Nat) (X : va_W) (f : Nat → Nat → Int32) (hok : okL f) : Met l yX3_sumOfAll wsX3_sumOfAll ({ frames := 0, cells := 0, slots := 0, locals := 0 }) (PR [.ref h] D (TY cI cZ cQ) (LW cI h a f ++ X)) (QR (kX3_sumOfAll f)) 0 0 (fun _ => False) := by
  refine m_rd (cc := cX3_sumOfAll) (maxL := 3) (ret := (some .int)) (by decide) rfl (Nat.le_of_ble_eq_true rfl) (lv0 := [(0, .ref h)]) rfl ?_
  intro p e s m below meth c ls S hr hlk hP hK hl
  have S : CallFix p m c cX3_sumOfAll 3 s ([.ref h] : List Value).toArray wsX3_sumOfAll RX3 := S
  have hx := S.1
  have hb := S.2.1
  have hown : s.vm.findClass RX3 = some m.cls := S.2.2.2.1
  have hts := S.2.2.2.2
  have hinX3 : ∀ w ∈ wsX30, w ∈ wsX3_sumOfAll := by decide +kernel
  refine lv_iconst (v := 0) hx hb dX3_sumOfAll_0 (by decide) ?_
  refine lv_istore_n (lv' := [(1, .int 0), (0, .ref h)]) hx hb dX3_sumOfAll_1 rfl hl (by decide) rfl (fun ls hl => ?_)
  refine lv_iconst (v := 0) hx hb dX3_sumOfAll_2 (by decide) ?_
  refine lv_istore_n (lv' := [(2, .int 0), (1, .int 0), (0, .ref h)]) hx hb dX3_sumOfAll_3 rfl hl (by decide) rfl (fun ls hl => ?_)
  have hρ : kX3_sumOfAll f = kX3_sumOfAll_4  7 0 f 0 := rfl
  exact lpX3_sumOfAll_4 l D cI cZ cQ h a X f S hr hlk hK hok hP 7 0 0   (by omega) (by omega)  (lv_sub hl [2, 1, 0] rfl) _ hρ
theorem ndX3_explains : yX3_explains.cls = RX3 ∧ yX3_explains.cls ≠ "java/lang/invoke/MethodHandle" ∧ yX3_explains.cls ≠ "java/lang/invoke/VarHandle" ∧ (parseMethodDescriptor yX3_explains.desc).map (fun d => d.parameters.length) = some 2 := by decide +kernel
set_option maxHeartbeats 4000000 in
set_option maxRecDepth 100000 in
theorem lpX3_explains_2 {p : Program} {e : Env} {s : State} {m : MethodId} {below : List Frame} {meth : Method} {c : Code} (l : Launch) (D : va_G) (cI cZ cQ : ClassId) (h : Nat) (a : Nat → Nat) (X : va_W) (x1 x2 : Int32) (f : Nat → Nat → Int32) (S : CallFix p m c cX3_explains 5 s ([.ref h, .int x1, .int x2] : List Value).toArray wsX3_explains RX3) (hr : meth.sig.returnType = (some .boolean)) (hlk : meth.locks = false) (hK : va_K D vwCl (TY cI cZ cQ) s) (hok : okL f) (hP : va_P D vwCl (LW cI h a f ++ X) s.heap) : ∀ (n i : Nat), i ≤ 6 → 6 - i < n → ∀ {ls : Array Slot}, lv_has ls 5 [(0, .ref h), (1, .int x1), (2, .int x2), (3, .int (nI i))] → ∀ ρ : Int32, ρ = kX3_explains_2 x1 x2 n i f → W p l e { frames := 1, cells := 0, slots := 0, locals := 21 } s m ([.ref h, .int x1, .int x2] : List Value).toArray below meth c s.heap [] 0 0 (MQ below (QR ρ) ([.ref h, .int x1, .int x2] : List Value).toArray s 0 0 (fun _ => False)) (F0 m 2 ls []) := by
  have hx := S.1
  have hb := S.2.1
  have hown : s.vm.findClass RX3 = some m.cls := S.2.2.2.1
  have hts := S.2.2.2.2
  have hinX3 : ∀ w ∈ wsX30, w ∈ wsX3_explains := by decide +kernel
  intro n
  induction n with
  | zero =>
    intro i  hi hn
    exact absurd hn (Nat.not_lt_zero _)
  | succ n ih =>
    intro i  hi hn  ls hl ρ hρ0
    refine lv_iload_n hx hb dX3_explains_2 rfl (lv_at hl 3 rfl) ?_
    refine lv_aload_n hx hb dX3_explains_3 rfl (lv_at hl 0 rfl) ?_
    refine va_get (v := .int (f 0 0)) (C := RX3) (T := TX3) (N := 15) (ci := 3) hx hb hts hinX3 hown hK hP 0 rfl rfl 0 (by decide) (hts (.fieldLink RX3 48 "AxleKeeper$Line" "sections" "I") (by decide +kernel)) (fun _ h9 => h9) rfl dX3_explains_4 ?_
    refine lv_icmp_ge (tgt := 61) hx hb dX3_explains_7 (by decide) (fun c_7 => ?_) (fun c_7 => ?_)
    · have c_7 : (f 0 0) ≤ (nI i) := c_7
      refine lv_iconst (v := 1) hx hb dX3_explains_61 (by decide) ?_
      have hρ : kX3_explains_2 x1 x2 (n + 1) i f = 1 := (if_pos c_7)
      have hρ := hρ0.trans hρ
      exact e_rz hx hb hr hlk dX3_explains_62 rfl hρ.symm
    have c_7 : ¬ ((f 0 0) ≤ (nI i)) := c_7
    have hlt : i < 6 := il_lt hok.2 (by decide) hi c_7
    have hvi : vp_in (nI i) 6 := vp_in_nI hlt (by decide)
    refine lv_aload_n hx hb dX3_explains_10 rfl (lv_at hl 0 rfl) ?_
    refine va_get (v := .ref (a 11)) (C := RX3) (T := TX3) (N := 15) (ci := 3) hx hb hts hinX3 hown hK hP 0 rfl rfl 11 (by decide) (hts (.fieldLink RX3 36 "AxleKeeper$Line" "sum" "[I") (by decide +kernel)) (fun _ h9 => h9) rfl dX3_explains_11 ?_
    refine lv_iload_n hx hb dX3_explains_14 rfl (lv_at hl 3 rfl) ?_
    refine va_iald hx hb hK hP 9 0 rfl rfl (n := 6) (by assumption) dX3_explains_15 ?_
    refine lv_istore (lv' := [(4, .int (f 11 (ix (nI i)))), (0, .ref h), (1, .int x1), (2, .int x2), (3, .int (nI i))]) hx hb dX3_explains_16 hl (by decide) rfl (fun ls hl => ?_)
    refine lv_iload_n hx hb dX3_explains_18 rfl (lv_at hl 4 rfl) ?_
    refine lv_aload_n hx hb dX3_explains_19 rfl (lv_at hl 1 rfl) ?_
    refine lv_iload_n hx hb dX3_explains_20 rfl (lv_at hl 2 rfl) ?_
    refine k_rd (As := [.int x1]) (rest := [.int (nI i)]) (bytes := cX3_rightOf) (C := RX3) S (okX3_rightOf l D cI cZ cQ h a X f x1) gX3_explains_X3_rightOf rfl ⟨rfl, rfl⟩ ndX3_rightOf ⟨Nat.le_of_ble_eq_true rfl, Nat.le_of_ble_eq_true rfl⟩ hK hP 0 rfl rfl rfl hl rfl (Nat.le_of_ble_eq_true rfl) dX3_explains_21 ⟨Nat.zero_le _, Nat.zero_le _⟩ ?_
    refine lv_icmp_ne (tgt := 33) hx hb dX3_explains_24 (by decide) (fun c_24 => ?_) (fun c_24 => ?_)
    · have c_24 : ¬ ((nI i) = (kX3_rightOf f x1)) := c_24
      refine lv_iload_n hx hb dX3_explains_33 rfl (lv_at hl 4 rfl) ?_
      refine lv_aload_n hx hb dX3_explains_34 rfl (lv_at hl 1 rfl) ?_
      refine lv_iload_n hx hb dX3_explains_35 rfl (lv_at hl 2 rfl) ?_
      refine k_rd (As := [.int x1]) (rest := [.int (nI i)]) (bytes := cX3_leftOf) (C := RX3) S (okX3_leftOf l D cI cZ cQ h a X f x1) gX3_explains_X3_leftOf rfl ⟨rfl, rfl⟩ ndX3_leftOf ⟨Nat.le_of_ble_eq_true rfl, Nat.le_of_ble_eq_true rfl⟩ hK hP 0 rfl rfl rfl hl rfl (Nat.le_of_ble_eq_true rfl) dX3_explains_36 ⟨Nat.zero_le _, Nat.zero_le _⟩ ?_
      refine lv_icmp_ne (tgt := 48) hx hb dX3_explains_39 (by decide) (fun c_39 => ?_) (fun c_39 => ?_)
      · have c_39 : ¬ ((nI i) = (kX3_leftOf f x1)) := c_39
        refine lv_iload hx hb dX3_explains_48 (lv_at hl 0 rfl) ?_
        refine lv_if_ge (tgt := 55) hx hb dX3_explains_50 (by decide) (fun c_50 => ?_) (fun c_50 => ?_)
        · have c_50 : 0 ≤ (f 11 (ix (nI i))) := c_50
          refine lv_iinc (v := (nI (i + 1))) (lv' := [(3, .int (nI (i + 1))), (4, .int (f 11 (ix (nI i)))), (0, .ref h), (1, .int x1), (2, .int x2)]) hx hb dX3_explains_55 hl (k := 4) rfl (nI_1 i) (by decide) rfl (fun ls hl => ?_)
          refine lv_goto (tgt := 2) hx hb dX3_explains_58 (by decide) ?_
          have hρ : kX3_explains_2 x1 x2 (n + 1) i f = kX3_explains_2 x1 x2 n (i + 1) f := (if_neg c_7).trans ((if_neg c_24).trans ((if_neg c_39).trans ((if_pos c_50))))
          have hρ := hρ0.trans hρ
          exact ih  (i + 1)    (by omega) (by omega)  (lv_sub hl [2, 3, 4, 0] rfl) _ hρ
        have c_50 : ¬ (0 ≤ (f 11 (ix (nI i)))) := c_50
        refine lv_iconst (v := 0) hx hb dX3_explains_53 (by decide) ?_
        have hρ : kX3_explains_2 x1 x2 (n + 1) i f = 0 := (if_neg c_7).trans ((if_neg c_24).trans ((if_neg c_39).trans ((if_neg c_50))))
        have hρ := hρ0.trans hρ
        exact e_rz hx hb hr hlk dX3_explains_54 rfl hρ.symm
      have c_39 : (nI i) = (kX3_leftOf f x1) := c_39
      refine lv_iload hx hb dX3_explains_42 (lv_at hl 0 rfl) ?_
      refine lv_iload_n hx hb dX3_explains_44 rfl (lv_at hl 3 rfl) ?_
      refine lv_isub hx hb dX3_explains_45 ?_
      refine lv_istore (lv' := [(4, .int ((f 11 (ix (nI i))) - x2)), (0, .ref h), (1, .int x1), (2, .int x2), (3, .int (nI i))]) hx hb dX3_explains_46 hl (by decide) rfl (fun ls hl => ?_)
      refine lv_iload hx hb dX3_explains_48 (lv_at hl 0 rfl) ?_
      refine lv_if_ge (tgt := 55) hx hb dX3_explains_50 (by decide) (fun c_50 => ?_) (fun c_50 => ?_)
      · have c_50 : 0 ≤ ((f 11 (ix (nI i))) - x2) := c_50
        refine lv_iinc (v := (nI (i + 1))) (lv' := [(3, .int (nI (i + 1))), (4, .int ((f 11 (ix (nI i))) - x2)), (0, .ref h), (1, .int x1), (2, .int x2)]) hx hb dX3_explains_55 hl (k := 4) rfl (nI_1 i) (by decide) rfl (fun ls hl => ?_)
        refine lv_goto (tgt := 2) hx hb dX3_explains_58 (by decide) ?_
        have hρ : kX3_explains_2 x1 x2 (n + 1) i f = kX3_explains_2 x1 x2 n (i + 1) f := (if_neg c_7).trans ((if_neg c_24).trans ((if_pos c_39).trans ((if_pos c_50))))
        have hρ := hρ0.trans hρ
        exact ih  (i + 1)    (by omega) (by omega)  (lv_sub hl [2, 3, 4, 0] rfl) _ hρ
      have c_50 : ¬ (0 ≤ ((f 11 (ix (nI i))) - x2)) := c_50
      refine lv_iconst (v := 0) hx hb dX3_explains_53 (by decide) ?_
      have hρ : kX3_explains_2 x1 x2 (n + 1) i f = 0 := (if_neg c_7).trans ((if_neg c_24).trans ((if_pos c_39).trans ((if_neg c_50))))
      have hρ := hρ0.trans hρ
      exact e_rz hx hb hr hlk dX3_explains_54 rfl hρ.symm
    have c_24 : (nI i) = (kX3_rightOf f x1) := c_24
    refine lv_iload hx hb dX3_explains_27 (lv_at hl 0 rfl) ?_
    refine lv_iload_n hx hb dX3_explains_29 rfl (lv_at hl 3 rfl) ?_
    refine lv_iadd hx hb dX3_explains_30 ?_
    refine lv_istore (lv' := [(4, .int ((f 11 (ix (nI i))) + x2)), (0, .ref h), (1, .int x1), (2, .int x2), (3, .int (nI i))]) hx hb dX3_explains_31 hl (by decide) rfl (fun ls hl => ?_)
    refine lv_iload_n hx hb dX3_explains_33 rfl (lv_at hl 4 rfl) ?_
    refine lv_aload_n hx hb dX3_explains_34 rfl (lv_at hl 1 rfl) ?_
    refine lv_iload_n hx hb dX3_explains_35 rfl (lv_at hl 2 rfl) ?_
    refine k_rd (As := [.int x1]) (rest := [.int (nI i)]) (bytes := cX3_leftOf) (C := RX3) S (okX3_leftOf l D cI cZ cQ h a X f x1) gX3_explains_X3_leftOf rfl ⟨rfl, rfl⟩ ndX3_leftOf ⟨Nat.le_of_ble_eq_true rfl, Nat.le_of_ble_eq_true rfl⟩ hK hP 0 rfl rfl rfl hl rfl (Nat.le_of_ble_eq_true rfl) dX3_explains_36 ⟨Nat.zero_le _, Nat.zero_le _⟩ ?_
    refine lv_icmp_ne (tgt := 48) hx hb dX3_explains_39 (by decide) (fun c_39 => ?_) (fun c_39 => ?_)
    · have c_39 : ¬ ((nI i) = (kX3_leftOf f x1)) := c_39
      refine lv_iload hx hb dX3_explains_48 (lv_at hl 0 rfl) ?_
      refine lv_if_ge (tgt := 55) hx hb dX3_explains_50 (by decide) (fun c_50 => ?_) (fun c_50 => ?_)
      · have c_50 : 0 ≤ ((f 11 (ix (nI i))) + x2) := c_50
        refine lv_iinc (v := (nI (i + 1))) (lv' := [(3, .int (nI (i + 1))), (4, .int ((f 11 (ix (nI i))) + x2)), (0, .ref h), (1, .int x1), (2, .int x2)]) hx hb dX3_explains_55 hl (k := 4) rfl (nI_1 i) (by decide) rfl (fun ls hl => ?_)
        refine lv_goto (tgt := 2) hx hb dX3_explains_58 (by decide) ?_
        have hρ : kX3_explains_2 x1 x2 (n + 1) i f = kX3_explains_2 x1 x2 n (i + 1) f := (if_neg c_7).trans ((if_pos c_24).trans ((if_neg c_39).trans ((if_pos c_50))))
        have hρ := hρ0.trans hρ
        exact ih  (i + 1)    (by omega) (by omega)  (lv_sub hl [2, 3, 4, 0] rfl) _ hρ
      have c_50 : ¬ (0 ≤ ((f 11 (ix (nI i))) + x2)) := c_50
      refine lv_iconst (v := 0) hx hb dX3_explains_53 (by decide) ?_
      have hρ : kX3_explains_2 x1 x2 (n + 1) i f = 0 := (if_neg c_7).trans ((if_pos c_24).trans ((if_neg c_39).trans ((if_neg c_50))))
      have hρ := hρ0.trans hρ
      exact e_rz hx hb hr hlk dX3_explains_54 rfl hρ.symm
    have c_39 : (nI i) = (kX3_leftOf f x1) := c_39
    refine lv_iload hx hb dX3_explains_42 (lv_at hl 0 rfl) ?_
    refine lv_iload_n hx hb dX3_explains_44 rfl (lv_at hl 3 rfl) ?_
    refine lv_isub hx hb dX3_explains_45 ?_
    refine lv_istore (lv' := [(4, .int (((f 11 (ix (nI i))) + x2) - x2)), (0, .ref h), (1, .int x1), (2, .int x2), (3, .int (nI i))]) hx hb dX3_explains_46 hl (by decide) rfl (fun ls hl => ?_)
    refine lv_iload hx hb dX3_explains_48 (lv_at hl 0 rfl) ?_
    refine lv_if_ge (tgt := 55) hx hb dX3_explains_50 (by decide) (fun c_50 => ?_) (fun c_50 => ?_)
    · have c_50 : 0 ≤ (((f 11 (ix (nI i))) + x2) - x2) := c_50
      refine lv_iinc (v := (nI (i + 1))) (lv' := [(3, .int (nI (i + 1))), (4, .int (((f 11 (ix (nI i))) + x2) - x2)), (0, .ref h), (1, .int x1), (2, .int x2)]) hx hb dX3_explains_55 hl (k := 4) rfl (nI_1 i) (by decide) rfl (fun ls hl => ?_)
      refine lv_goto (tgt := 2) hx hb dX3_explains_58 (by decide) ?_
      have hρ : kX3_explains_2 x1 x2 (n + 1) i f = kX3_explains_2 x1 x2 n (i + 1) f := (if_neg c_7).trans ((if_pos c_24).trans ((if_pos c_39).trans ((if_pos c_50))))
      have hρ := hρ0.trans hρ
      exact ih  (i + 1)    (by omega) (by omega)  (lv_sub hl [2, 3, 4, 0] rfl) _ hρ
    have c_50 : ¬ (0 ≤ (((f 11 (ix (nI i))) + x2) - x2)) := c_50
    refine lv_iconst (v := 0) hx hb dX3_explains_53 (by decide) ?_
    have hρ : kX3_explains_2 x1 x2 (n + 1) i f = 0 := (if_neg c_7).trans ((if_pos c_24).trans ((if_pos c_39).trans ((if_neg c_50))))
    have hρ := hρ0.trans hρ
    exact e_rz hx hb hr hlk dX3_explains_54 rfl hρ.symm
set_option maxHeartbeats 4000000 in
set_option maxRecDepth 100000 in
theorem okX3_explains (l : Launch) (D : va_G) (cI cZ cQ : ClassId) (h : Nat) (a : Nat → Nat) (X : va_W) (f : Nat → Nat → Int32) (x1 x2 : Int32) (hok : okL f) : Met l yX3_explains wsX3_explains ({ frames := 1, cells := 0, slots := 0, locals := 21 }) (PR [.ref h, .int x1, .int x2] D (TY cI cZ cQ) (LW cI h a f ++ X)) (QR (kX3_explains f x1 x2)) 0 0 (fun _ => False) := by
  refine m_rd (cc := cX3_explains) (maxL := 5) (ret := (some .boolean)) (by decide) rfl (Nat.le_of_ble_eq_true rfl) (lv0 := [(0, .ref h), (1, .int x1), (2, .int x2)]) rfl ?_
  intro p e s m below meth c ls S hr hlk hP hK hl
  have S : CallFix p m c cX3_explains 5 s ([.ref h, .int x1, .int x2] : List Value).toArray wsX3_explains RX3 := S
  have hx := S.1
  have hb := S.2.1
  have hown : s.vm.findClass RX3 = some m.cls := S.2.2.2.1
  have hts := S.2.2.2.2
  have hinX3 : ∀ w ∈ wsX30, w ∈ wsX3_explains := by decide +kernel
  refine lv_iconst (v := 0) hx hb dX3_explains_0 (by decide) ?_
  refine lv_istore_n (lv' := [(3, .int 0), (0, .ref h), (1, .int x1), (2, .int x2)]) hx hb dX3_explains_1 rfl hl (by decide) rfl (fun ls hl => ?_)
  have hρ : kX3_explains f x1 x2 = kX3_explains_2 x1 x2 7 0 f := rfl
  exact lpX3_explains_2 l D cI cZ cQ h a X x1 x2 f S hr hlk hK hok hP 7 0    (by omega) (by omega)  (lv_sub hl [1, 2, 3, 0] rfl) _ hρ
theorem ndX3_miscount : yX3_miscount.cls = RX3 ∧ yX3_miscount.cls ≠ "java/lang/invoke/MethodHandle" ∧ yX3_miscount.cls ≠ "java/lang/invoke/VarHandle" ∧ (parseMethodDescriptor yX3_miscount.desc).map (fun d => d.parameters.length) = some 1 := by decide +kernel
set_option maxHeartbeats 4000000 in
set_option maxRecDepth 100000 in
theorem lpX3_miscount_13 {p : Program} {e : Env} {s : State} {m : MethodId} {below : List Frame} {meth : Method} {c : Code} (l : Launch) (D : va_G) (cI cZ cQ : ClassId) (h : Nat) (a : Nat → Nat) (X : va_W) (x1 : Int32) (f : Nat → Nat → Int32) (S : CallFix p m c cX3_miscount 3 s ([.ref h, .int x1] : List Value).toArray wsX3_miscount RX3) (hr : meth.sig.returnType = (some .int)) (hlk : meth.locks = false) (hK : va_K D vwCl (TY cI cZ cQ) s) (hok : okL f) (hP : va_P D vwCl (LW cI h a f ++ X) s.heap) : ∀ (n i : Nat), i ≤ 10 → 10 - i < n → ∀ {ls : Array Slot}, lv_has ls 3 [(0, .ref h), (1, .int x1), (2, .int (nI i))] → ∀ ρ : Int32, ρ = kX3_miscount_13 x1 n i f → W p l e { frames := 2, cells := 0, slots := 0, locals := 45 } s m ([.ref h, .int x1] : List Value).toArray below meth c s.heap [] 0 0 (MQ below (QR ρ) ([.ref h, .int x1] : List Value).toArray s 0 0 (fun _ => False)) (F0 m 13 ls []) := by
  have hx := S.1
  have hb := S.2.1
  have hown : s.vm.findClass RX3 = some m.cls := S.2.2.2.1
  have hts := S.2.2.2.2
  intro n
  induction n with
  | zero =>
    intro i  hi hn
    exact absurd hn (Nat.not_lt_zero _)
  | succ n ih =>
    intro i  hi hn  ls hl ρ hρ0
    refine lv_iload_n hx hb dX3_miscount_13 rfl (lv_at hl 2 rfl) ?_
    refine lv_bipush (v := 9) hx hb dX3_miscount_14 (by decide) ?_
    refine lv_icmp_gt (tgt := 49) hx hb dX3_miscount_16 (by decide) (fun c_16 => ?_) (fun c_16 => ?_)
    · have c_16 : 9 < (nI i) := c_16
      refine lv_iconst (v := 0) hx hb dX3_miscount_49 (by decide) ?_
      have hρ : kX3_miscount_13 x1 (n + 1) i f = 0 := (if_pos c_16)
      have hρ := hρ0.trans hρ
      exact e_rd hx hb hr hlk dX3_miscount_50 hρ.symm
    have c_16 : ¬ (9 < (nI i)) := c_16
    have hlt : i < 10 := il_gt hi c_16
    refine lv_aload_n hx hb dX3_miscount_19 rfl (lv_at hl 0 rfl) ?_
    refine lv_iload_n hx hb dX3_miscount_20 rfl (lv_at hl 1 rfl) ?_
    refine lv_iload_n hx hb dX3_miscount_21 rfl (lv_at hl 2 rfl) ?_
    refine k_rd (As := [.int x1, .int (nI i)]) (rest := []) (bytes := cX3_explains) (C := RX3) S (okX3_explains l D cI cZ cQ h a X f x1 (nI i) (by assumption)) gX3_miscount_X3_explains rfl ⟨rfl, rfl⟩ ndX3_explains ⟨Nat.le_of_ble_eq_true rfl, Nat.le_of_ble_eq_true rfl⟩ hK hP 0 rfl rfl rfl hl rfl (Nat.le_of_ble_eq_true rfl) dX3_miscount_22 ⟨Nat.zero_le _, Nat.zero_le _⟩ ?_
    refine lv_if_eq (tgt := 30) hx hb dX3_miscount_25 (by decide) (fun c_25 => ?_) (fun c_25 => ?_)
    · have c_25 : (kX3_explains f x1 (nI i)) = 0 := c_25
      refine lv_aload_n hx hb dX3_miscount_30 rfl (lv_at hl 0 rfl) ?_
      refine lv_iload_n hx hb dX3_miscount_31 rfl (lv_at hl 1 rfl) ?_
      refine lv_iload_n hx hb dX3_miscount_32 rfl (lv_at hl 2 rfl) ?_
      refine lv_ineg hx hb dX3_miscount_33 ?_
      refine k_rd (As := [.int x1, .int (-(nI i))]) (rest := []) (bytes := cX3_explains) (C := RX3) S (okX3_explains l D cI cZ cQ h a X f x1 (-(nI i)) (by assumption)) gX3_miscount_X3_explains rfl ⟨rfl, rfl⟩ ndX3_explains ⟨Nat.le_of_ble_eq_true rfl, Nat.le_of_ble_eq_true rfl⟩ hK hP 0 rfl rfl rfl hl rfl (Nat.le_of_ble_eq_true rfl) dX3_miscount_34 ⟨Nat.zero_le _, Nat.zero_le _⟩ ?_
      refine lv_if_eq (tgt := 43) hx hb dX3_miscount_37 (by decide) (fun c_37 => ?_) (fun c_37 => ?_)
      · have c_37 : (kX3_explains f x1 (-(nI i))) = 0 := c_37
        refine lv_iinc (v := (nI (i + 1))) (lv' := [(2, .int (nI (i + 1))), (0, .ref h), (1, .int x1)]) hx hb dX3_miscount_43 hl (k := 2) rfl (nI_1 i) (by decide) rfl (fun ls hl => ?_)
        refine lv_goto (tgt := 13) hx hb dX3_miscount_46 (by decide) ?_
        have hρ : kX3_miscount_13 x1 (n + 1) i f = kX3_miscount_13 x1 n (i + 1) f := (if_neg c_16).trans ((if_pos c_25).trans ((if_pos c_37)))
        have hρ := hρ0.trans hρ
        exact ih  (i + 1)    (by omega) (by omega)  (lv_sub hl [1, 2, 0] rfl) _ hρ
      have c_37 : ¬ ((kX3_explains f x1 (-(nI i))) = 0) := c_37
      refine lv_iload_n hx hb dX3_miscount_40 rfl (lv_at hl 2 rfl) ?_
      refine lv_ineg hx hb dX3_miscount_41 ?_
      have hρ : kX3_miscount_13 x1 (n + 1) i f = (-(nI i)) := (if_neg c_16).trans ((if_pos c_25).trans ((if_neg c_37)))
      have hρ := hρ0.trans hρ
      exact e_rd hx hb hr hlk dX3_miscount_42 hρ.symm
    have c_25 : ¬ ((kX3_explains f x1 (nI i)) = 0) := c_25
    refine lv_iload_n hx hb dX3_miscount_28 rfl (lv_at hl 2 rfl) ?_
    have hρ : kX3_miscount_13 x1 (n + 1) i f = (nI i) := (if_neg c_16).trans ((if_neg c_25))
    have hρ := hρ0.trans hρ
    exact e_rd hx hb hr hlk dX3_miscount_29 hρ.symm
set_option maxHeartbeats 4000000 in
set_option maxRecDepth 100000 in
theorem okX3_miscount (l : Launch) (D : va_G) (cI cZ cQ : ClassId) (h : Nat) (a : Nat → Nat) (X : va_W) (f : Nat → Nat → Int32) (x1 : Int32) (hok : okL f) : Met l yX3_miscount wsX3_miscount ({ frames := 2, cells := 0, slots := 0, locals := 45 }) (PR [.ref h, .int x1] D (TY cI cZ cQ) (LW cI h a f ++ X)) (QR (kX3_miscount f x1)) 0 0 (fun _ => False) := by
  refine m_rd (cc := cX3_miscount) (maxL := 3) (ret := (some .int)) (by decide) rfl (Nat.le_of_ble_eq_true rfl) (lv0 := [(0, .ref h), (1, .int x1)]) rfl ?_
  intro p e s m below meth c ls S hr hlk hP hK hl
  have S : CallFix p m c cX3_miscount 3 s ([.ref h, .int x1] : List Value).toArray wsX3_miscount RX3 := S
  have hx := S.1
  have hb := S.2.1
  have hown : s.vm.findClass RX3 = some m.cls := S.2.2.2.1
  have hts := S.2.2.2.2
  refine lv_aload_n hx hb dX3_miscount_0 rfl (lv_at hl 0 rfl) ?_
  refine lv_iload_n hx hb dX3_miscount_1 rfl (lv_at hl 1 rfl) ?_
  refine lv_iconst (v := 0) hx hb dX3_miscount_2 (by decide) ?_
  refine k_rd (As := [.int x1, .int 0]) (rest := []) (bytes := cX3_explains) (C := RX3) S (okX3_explains l D cI cZ cQ h a X f x1 0 (by assumption)) gX3_miscount_X3_explains rfl ⟨rfl, rfl⟩ ndX3_explains ⟨Nat.le_of_ble_eq_true rfl, Nat.le_of_ble_eq_true rfl⟩ hK hP 0 rfl rfl rfl hl rfl (Nat.le_of_ble_eq_true rfl) dX3_miscount_3 ⟨Nat.zero_le _, Nat.zero_le _⟩ ?_
  refine lv_if_eq (tgt := 11) hx hb dX3_miscount_6 (by decide) (fun c_6 => ?_) (fun c_6 => ?_)
  · have c_6 : (kX3_explains f x1 0) = 0 := c_6
    refine lv_iconst (v := 1) hx hb dX3_miscount_11 (by decide) ?_
    refine lv_istore_n (lv' := [(2, .int 1), (0, .ref h), (1, .int x1)]) hx hb dX3_miscount_12 rfl hl (by decide) rfl (fun ls hl => ?_)
    have hρ : kX3_miscount f x1 = kX3_miscount_13 x1 10 1 f := (if_pos c_6)
    exact lpX3_miscount_13 l D cI cZ cQ h a X x1 f S hr hlk hK hok hP 10 1    (by omega) (by omega)  (lv_sub hl [1, 2, 0] rfl) _ hρ
  have c_6 : ¬ ((kX3_explains f x1 0) = 0) := c_6
  refine lv_iconst (v := 0) hx hb dX3_miscount_9 (by decide) ?_
  have hρ : kX3_miscount f x1 = 0 := (if_neg c_6)
  exact e_rd hx hb hr hlk dX3_miscount_10 hρ.symm
theorem ndX3_suspects : yX3_suspects.cls = RX3 ∧ yX3_suspects.cls ≠ "java/lang/invoke/MethodHandle" ∧ yX3_suspects.cls ≠ "java/lang/invoke/VarHandle" ∧ (parseMethodDescriptor yX3_suspects.desc).map (fun d => d.parameters.length) = some 0 := by decide +kernel
set_option maxHeartbeats 4000000 in
set_option maxRecDepth 100000 in
theorem lpX3_suspects_4 {p : Program} {e : Env} {s : State} {m : MethodId} {below : List Frame} {meth : Method} {c : Code} (l : Launch) (D : va_G) (cI cZ cQ : ClassId) (h : Nat) (a : Nat → Nat) (X : va_W) (f : Nat → Nat → Int32) (S : CallFix p m c cX3_suspects 3 s ([.ref h] : List Value).toArray wsX3_suspects RX3) (hr : meth.sig.returnType = (some .int)) (hlk : meth.locks = false) (hK : va_K D vwCl (TY cI cZ cQ) s) (hok : okL f) (hP : va_P D vwCl (LW cI h a f ++ X) s.heap) : ∀ (n i : Nat) (v1 : Int32), i ≤ 7 → 7 - i < n → ∀ {ls : Array Slot}, lv_has ls 3 [(0, .ref h), (1, .int v1), (2, .int (nI i))] → ∀ ρ : Int32, ρ = kX3_suspects_4  n i f v1 → W p l e { frames := 3, cells := 0, slots := 0, locals := 67 } s m ([.ref h] : List Value).toArray below meth c s.heap [] 0 0 (MQ below (QR ρ) ([.ref h] : List Value).toArray s 0 0 (fun _ => False)) (F0 m 4 ls []) := by
  have hx := S.1
  have hb := S.2.1
  have hown : s.vm.findClass RX3 = some m.cls := S.2.2.2.1
  have hts := S.2.2.2.2
  intro n
  induction n with
  | zero =>
    intro i _ hi hn
    exact absurd hn (Nat.not_lt_zero _)
  | succ n ih =>
    intro i v1 hi hn  ls hl ρ hρ0
    refine lv_iload_n hx hb dX3_suspects_4 rfl (lv_at hl 2 rfl) ?_
    refine lv_aload_n hx hb dX3_suspects_5 rfl (lv_at hl 0 rfl) ?_
    refine k_rd (As := []) (rest := [.int (nI i)]) (bytes := cX3_heads) (C := RX3) S (okX3_heads l D cI cZ cQ h a X f ) gX3_suspects_X3_heads rfl ⟨rfl, rfl⟩ ndX3_heads ⟨Nat.le_of_ble_eq_true rfl, Nat.le_of_ble_eq_true rfl⟩ hK hP 0 rfl rfl rfl hl rfl (Nat.le_of_ble_eq_true rfl) dX3_suspects_6 ⟨Nat.zero_le _, Nat.zero_le _⟩ ?_
    refine lv_icmp_ge (tgt := 32) hx hb dX3_suspects_9 (by decide) (fun c_9 => ?_) (fun c_9 => ?_)
    · have c_9 : (kX3_heads f) ≤ (nI i) := c_9
      refine lv_iload_n hx hb dX3_suspects_32 rfl (lv_at hl 1 rfl) ?_
      have hρ : kX3_suspects_4  (n + 1) i f v1 = v1 := (if_pos c_9)
      have hρ := hρ0.trans hρ
      exact e_rd hx hb hr hlk dX3_suspects_33 hρ.symm
    have c_9 : ¬ ((kX3_heads f) ≤ (nI i)) := c_9
    have hlt : i < 7 := il_lt (heads_le hok) (by decide) hi c_9
    have hvi : vp_in (nI i) 7 := vp_in_nI hlt (by decide)
    refine lv_aload_n hx hb dX3_suspects_12 rfl (lv_at hl 0 rfl) ?_
    refine lv_iload_n hx hb dX3_suspects_13 rfl (lv_at hl 2 rfl) ?_
    refine k_rd (As := [.int (nI i)]) (rest := []) (bytes := cX3_miscount) (C := RX3) S (okX3_miscount l D cI cZ cQ h a X f (nI i) (by assumption)) gX3_suspects_X3_miscount rfl ⟨rfl, rfl⟩ ndX3_miscount ⟨Nat.le_of_ble_eq_true rfl, Nat.le_of_ble_eq_true rfl⟩ hK hP 0 rfl rfl rfl hl rfl (Nat.le_of_ble_eq_true rfl) dX3_suspects_14 ⟨Nat.zero_le _, Nat.zero_le _⟩ ?_
    refine lv_if_eq (tgt := 26) hx hb dX3_suspects_17 (by decide) (fun c_17 => ?_) (fun c_17 => ?_)
    · have c_17 : (kX3_miscount f (nI i)) = 0 := c_17
      refine lv_iinc (v := (nI (i + 1))) (lv' := [(2, .int (nI (i + 1))), (0, .ref h), (1, .int v1)]) hx hb dX3_suspects_26 hl (k := 2) rfl (nI_1 i) (by decide) rfl (fun ls hl => ?_)
      refine lv_goto (tgt := 4) hx hb dX3_suspects_29 (by decide) ?_
      have hρ : kX3_suspects_4  (n + 1) i f v1 = kX3_suspects_4  n (i + 1) f v1 := (if_neg c_9).trans ((if_pos c_17))
      have hρ := hρ0.trans hρ
      exact ih  (i + 1) v1   (by omega) (by omega)  (lv_sub hl [1, 2, 0] rfl) _ hρ
    have c_17 : ¬ ((kX3_miscount f (nI i)) = 0) := c_17
    refine lv_iload_n hx hb dX3_suspects_20 rfl (lv_at hl 1 rfl) ?_
    refine lv_iconst (v := 1) hx hb dX3_suspects_21 (by decide) ?_
    refine lv_iload_n hx hb dX3_suspects_22 rfl (lv_at hl 2 rfl) ?_
    refine lv_ishl hx hb dX3_suspects_23 ?_
    refine lv_ior hx hb dX3_suspects_24 ?_
    refine lv_istore_n (lv' := [(1, .int (v1 ||| ((1 : Int32) <<< ((nI i) &&& 31)))), (0, .ref h), (2, .int (nI i))]) hx hb dX3_suspects_25 rfl hl (by decide) rfl (fun ls hl => ?_)
    refine lv_iinc (v := (nI (i + 1))) (lv' := [(2, .int (nI (i + 1))), (1, .int (v1 ||| ((1 : Int32) <<< ((nI i) &&& 31)))), (0, .ref h)]) hx hb dX3_suspects_26 hl (k := 2) rfl (nI_1 i) (by decide) rfl (fun ls hl => ?_)
    refine lv_goto (tgt := 4) hx hb dX3_suspects_29 (by decide) ?_
    have hρ : kX3_suspects_4  (n + 1) i f v1 = kX3_suspects_4  n (i + 1) f (v1 ||| ((1 : Int32) <<< ((nI i) &&& 31))) := (if_neg c_9).trans ((if_neg c_17))
    have hρ := hρ0.trans hρ
    exact ih  (i + 1) (v1 ||| ((1 : Int32) <<< ((nI i) &&& 31)))   (by omega) (by omega)  (lv_sub hl [2, 1, 0] rfl) _ hρ
set_option maxHeartbeats 4000000 in
set_option maxRecDepth 100000 in
theorem okX3_suspects (l : Launch) (D : va_G) (cI cZ cQ : ClassId) (h : Nat) (a : Nat → Nat) (X : va_W) (f : Nat → Nat → Int32) (hok : okL f) : Met l yX3_suspects wsX3_suspects ({ frames := 3, cells := 0, slots := 0, locals := 67 }) (PR [.ref h] D (TY cI cZ cQ) (LW cI h a f ++ X)) (QR (kX3_suspects f)) 0 0 (fun _ => False) := by
  refine m_rd (cc := cX3_suspects) (maxL := 3) (ret := (some .int)) (by decide) rfl (Nat.le_of_ble_eq_true rfl) (lv0 := [(0, .ref h)]) rfl ?_
  intro p e s m below meth c ls S hr hlk hP hK hl
  have S : CallFix p m c cX3_suspects 3 s ([.ref h] : List Value).toArray wsX3_suspects RX3 := S
  have hx := S.1
  have hb := S.2.1
  have hown : s.vm.findClass RX3 = some m.cls := S.2.2.2.1
  have hts := S.2.2.2.2
  refine lv_iconst (v := 0) hx hb dX3_suspects_0 (by decide) ?_
  refine lv_istore_n (lv' := [(1, .int 0), (0, .ref h)]) hx hb dX3_suspects_1 rfl hl (by decide) rfl (fun ls hl => ?_)
  refine lv_iconst (v := 0) hx hb dX3_suspects_2 (by decide) ?_
  refine lv_istore_n (lv' := [(2, .int 0), (1, .int 0), (0, .ref h)]) hx hb dX3_suspects_3 rfl hl (by decide) rfl (fun ls hl => ?_)
  have hρ : kX3_suspects f = kX3_suspects_4  8 0 f 0 := rfl
  exact lpX3_suspects_4 l D cI cZ cQ h a X f S hr hlk hK hok hP 8 0 0   (by omega) (by omega)  (lv_sub hl [2, 1, 0] rfl) _ hρ
theorem ndX3_lossesLeft : yX3_lossesLeft.cls = RX3 ∧ yX3_lossesLeft.cls ≠ "java/lang/invoke/MethodHandle" ∧ yX3_lossesLeft.cls ≠ "java/lang/invoke/VarHandle" ∧ (parseMethodDescriptor yX3_lossesLeft.desc).map (fun d => d.parameters.length) = some 1 := by decide +kernel
set_option maxHeartbeats 4000000 in
set_option maxRecDepth 100000 in
theorem okX3_lossesLeft (l : Launch) (D : va_G) (cI cZ cQ : ClassId) (h : Nat) (a : Nat → Nat) (X : va_W) (f : Nat → Nat → Int32) (x1 : Int32) (h1 : vp_in x1 6) : Met l yX3_lossesLeft wsX3_lossesLeft ({ frames := 1, cells := 0, slots := 0, locals := 21 }) (PR [.ref h, .int x1] D (TY cI cZ cQ) (LW cI h a f ++ X)) (QR (kX3_lossesLeft f x1)) 0 0 (fun _ => False) := by
  refine m_rd (cc := cX3_lossesLeft) (maxL := 3) (ret := (some .int)) (by decide) rfl (Nat.le_of_ble_eq_true rfl) (lv0 := [(0, .ref h), (1, .int x1)]) rfl ?_
  intro p e s m below meth c ls S hr hlk hP hK hl
  have S : CallFix p m c cX3_lossesLeft 3 s ([.ref h, .int x1] : List Value).toArray wsX3_lossesLeft RX3 := S
  have hx := S.1
  have hb := S.2.1
  have hown : s.vm.findClass RX3 = some m.cls := S.2.2.2.1
  have hts := S.2.2.2.2
  have hinX3 : ∀ w ∈ wsX30, w ∈ wsX3_lossesLeft := by decide +kernel
  refine lv_aload_n hx hb dX3_lossesLeft_0 rfl (lv_at hl 0 rfl) ?_
  refine va_get (v := .ref (a 9)) (C := RX3) (T := TX3) (N := 15) (ci := 3) hx hb hts hinX3 hown hK hP 0 rfl rfl 9 (by decide) (hts (.fieldLink RX3 30 "AxleKeeper$Line" "age" "[I") (by decide +kernel)) (fun _ h9 => h9) rfl dX3_lossesLeft_1 ?_
  refine lv_iload_n hx hb dX3_lossesLeft_4 rfl (lv_at hl 1 rfl) ?_
  refine va_iald hx hb hK hP 7 0 rfl rfl (n := 7) (in67 h1) dX3_lossesLeft_5 ?_
  refine lv_aload_n hx hb dX3_lossesLeft_6 rfl (lv_at hl 0 rfl) ?_
  refine va_get (v := .ref (a 9)) (C := RX3) (T := TX3) (N := 15) (ci := 3) hx hb hts hinX3 hown hK hP 0 rfl rfl 9 (by decide) (hts (.fieldLink RX3 30 "AxleKeeper$Line" "age" "[I") (by decide +kernel)) (fun _ h9 => h9) rfl dX3_lossesLeft_7 ?_
  refine lv_aload_n hx hb dX3_lossesLeft_10 rfl (lv_at hl 0 rfl) ?_
  refine lv_iload_n hx hb dX3_lossesLeft_11 rfl (lv_at hl 1 rfl) ?_
  refine k_rd (As := [.int x1]) (rest := [.ref (a 9), .int (f 9 (ix x1))]) (bytes := cX3_rightHead) (C := RX3) S (okX3_rightHead l D cI cZ cQ h a X f x1) gX3_lossesLeft_X3_rightHead rfl ⟨rfl, rfl⟩ ndX3_rightHead ⟨Nat.le_of_ble_eq_true rfl, Nat.le_of_ble_eq_true rfl⟩ hK hP 0 rfl rfl rfl hl rfl (Nat.le_of_ble_eq_true rfl) dX3_lossesLeft_12 ⟨Nat.zero_le _, Nat.zero_le _⟩ ?_
  refine va_iald hx hb hK hP 7 0 rfl rfl (n := 7) (rh_in h1) dX3_lossesLeft_15 ?_
  refine va_mmax hx hb (by rw [S.2.2.1]; exact hl.1.symm) hown (hts (.methodLink RX3 149 Lib.Math.max.name) (by decide +kernel)) (hts (.static Lib.Math.max.name) (by decide +kernel)) (hts (.initialized "java/lang/Math") (by decide +kernel)) (hts (.code Lib.Math.max.name Lib.Math.max.code 2 (some .int)) (by decide +kernel)) (Nat.le_of_ble_eq_true rfl) (Nat.le_of_ble_eq_true rfl) (Nat.zero_le _) (Nat.zero_le _) dX3_lossesLeft_16 ?_
  refine lv_istore_n (lv' := [(2, .int (if (f 9 (ix x1)) < (f 9 (ix (kX3_rightHead f x1))) then (f 9 (ix (kX3_rightHead f x1))) else (f 9 (ix x1)))), (0, .ref h), (1, .int x1)]) hx hb dX3_lossesLeft_19 rfl hl (by decide) rfl (fun ls hl => ?_)
  refine lv_iconst (v := 0) hx hb dX3_lossesLeft_20 (by decide) ?_
  refine lv_iconst (v := 4) hx hb dX3_lossesLeft_21 (by decide) ?_
  refine lv_iload_n hx hb dX3_lossesLeft_22 rfl (lv_at hl 0 rfl) ?_
  refine lv_isub hx hb dX3_lossesLeft_23 ?_
  refine va_mmax hx hb (by rw [S.2.2.1]; exact hl.1.symm) hown (hts (.methodLink RX3 149 Lib.Math.max.name) (by decide +kernel)) (hts (.static Lib.Math.max.name) (by decide +kernel)) (hts (.initialized "java/lang/Math") (by decide +kernel)) (hts (.code Lib.Math.max.name Lib.Math.max.code 2 (some .int)) (by decide +kernel)) (Nat.le_of_ble_eq_true rfl) (Nat.le_of_ble_eq_true rfl) (Nat.zero_le _) (Nat.zero_le _) dX3_lossesLeft_24 ?_
  have hρ : kX3_lossesLeft f x1 = (if 0 < (4 - (if (f 9 (ix x1)) < (f 9 (ix (kX3_rightHead f x1))) then (f 9 (ix (kX3_rightHead f x1))) else (f 9 (ix x1)))) then (4 - (if (f 9 (ix x1)) < (f 9 (ix (kX3_rightHead f x1))) then (f 9 (ix (kX3_rightHead f x1))) else (f 9 (ix x1)))) else 0) := rfl
  exact e_rd hx hb hr hlk dX3_lossesLeft_27 hρ.symm
theorem ndX3_clearRun : yX3_clearRun.cls = RX3 ∧ yX3_clearRun.cls ≠ "java/lang/invoke/MethodHandle" ∧ yX3_clearRun.cls ≠ "java/lang/invoke/VarHandle" ∧ (parseMethodDescriptor yX3_clearRun.desc).map (fun d => d.parameters.length) = some 1 := by decide +kernel
set_option maxHeartbeats 4000000 in
set_option maxRecDepth 100000 in
theorem lpX3_clearRun_4 {p : Program} {e : Env} {s : State} {m : MethodId} {below : List Frame} {meth : Method} {c : Code} (l : Launch) (D : va_G) (cI cZ cQ : ClassId) (h : Nat) (a : Nat → Nat) (X : va_W) (x1 : Int32) (f : Nat → Nat → Int32) (S : CallFix p m c cX3_clearRun 4 s ([.ref h, .int x1] : List Value).toArray wsX3_clearRun RX3) (hr : meth.sig.returnType = (some .int)) (hlk : meth.locks = false) (hK : va_K D vwCl (TY cI cZ cQ) s) (hok : okL f) (hP : va_P D vwCl (LW cI h a f ++ X) s.heap) : ∀ (n i : Nat) (v3 : Int32), i ≤ 6 → 6 - i < n → ∀ {ls : Array Slot}, lv_has ls 4 [(0, .ref h), (1, .int x1), (2, .int (nI i)), (3, .int v3)] → ∀ ρ : Int32, ρ = kX3_clearRun_4 x1 n i f v3 → W p l e { frames := 1, cells := 0, slots := 0, locals := 21 } s m ([.ref h, .int x1] : List Value).toArray below meth c s.heap [] 0 0 (MQ below (QR ρ) ([.ref h, .int x1] : List Value).toArray s 0 0 (fun _ => False)) (F0 m 4 ls []) := by
  have hx := S.1
  have hb := S.2.1
  have hown : s.vm.findClass RX3 = some m.cls := S.2.2.2.1
  have hts := S.2.2.2.2
  have hinX3 : ∀ w ∈ wsX30, w ∈ wsX3_clearRun := by decide +kernel
  intro n
  induction n with
  | zero =>
    intro i _ hi hn
    exact absurd hn (Nat.not_lt_zero _)
  | succ n ih =>
    intro i v3 hi hn  ls hl ρ hρ0
    refine lv_iload_n hx hb dX3_clearRun_4 rfl (lv_at hl 2 rfl) ?_
    refine lv_aload_n hx hb dX3_clearRun_5 rfl (lv_at hl 0 rfl) ?_
    refine va_get (v := .int (f 0 0)) (C := RX3) (T := TX3) (N := 15) (ci := 3) hx hb hts hinX3 hown hK hP 0 rfl rfl 0 (by decide) (hts (.fieldLink RX3 48 "AxleKeeper$Line" "sections" "I") (by decide +kernel)) (fun _ h9 => h9) rfl dX3_clearRun_6 ?_
    refine lv_icmp_ge (tgt := 60) hx hb dX3_clearRun_9 (by decide) (fun c_9 => ?_) (fun c_9 => ?_)
    · have c_9 : (f 0 0) ≤ (nI i) := c_9
      refine lv_iload_n hx hb dX3_clearRun_60 rfl (lv_at hl 2 rfl) ?_
      have hρ : kX3_clearRun_4 x1 (n + 1) i f v3 = (nI i) := (if_pos c_9)
      have hρ := hρ0.trans hρ
      exact e_rd hx hb hr hlk dX3_clearRun_61 hρ.symm
    have c_9 : ¬ ((f 0 0) ≤ (nI i)) := c_9
    have hlt : i < 6 := il_lt hok.2 (by decide) hi c_9
    refine lv_aload_n hx hb dX3_clearRun_12 rfl (lv_at hl 0 rfl) ?_
    refine lv_iload_n hx hb dX3_clearRun_13 rfl (lv_at hl 3 rfl) ?_
    refine k_rd (As := [.int v3]) (rest := []) (bytes := cX3_hasSection) (C := RX3) S (okX3_hasSection l D cI cZ cQ h a X f v3) gX3_clearRun_X3_hasSection rfl ⟨rfl, rfl⟩ ndX3_hasSection ⟨Nat.le_of_ble_eq_true rfl, Nat.le_of_ble_eq_true rfl⟩ hK hP 0 rfl rfl rfl hl rfl (Nat.le_of_ble_eq_true rfl) dX3_clearRun_14 ⟨Nat.zero_le _, Nat.zero_le _⟩ ?_
    refine lv_if_eq (tgt := 60) hx hb dX3_clearRun_17 (by decide) (fun c_17 => ?_) (fun c_17 => ?_)
    · have c_17 : (kX3_hasSection f v3) = 0 := c_17
      refine lv_iload_n hx hb dX3_clearRun_60 rfl (lv_at hl 2 rfl) ?_
      have hρ : kX3_clearRun_4 x1 (n + 1) i f v3 = (nI i) := (if_neg c_9).trans ((if_pos c_17))
      have hρ := hρ0.trans hρ
      exact e_rd hx hb hr hlk dX3_clearRun_61 hρ.symm
    have c_17 : ¬ ((kX3_hasSection f v3) = 0) := c_17
    have hv1 : vp_in _ 6 := hs_in hok c_17
    refine lv_aload_n hx hb dX3_clearRun_20 rfl (lv_at hl 0 rfl) ?_
    refine va_get (v := .ref (a 12)) (C := RX3) (T := TX3) (N := 15) (ci := 3) hx hb hts hinX3 hown hK hP 0 rfl rfl 12 (by decide) (hts (.fieldLink RX3 39 "AxleKeeper$Line" "call" "[I") (by decide +kernel)) (fun _ h9 => h9) rfl dX3_clearRun_21 ?_
    refine lv_iload_n hx hb dX3_clearRun_24 rfl (lv_at hl 3 rfl) ?_
    refine va_iald hx hb hK hP 10 0 rfl rfl (n := 6) (by assumption) dX3_clearRun_25 ?_
    refine lv_if_ne (tgt := 60) hx hb dX3_clearRun_26 (by decide) (fun c_26 => ?_) (fun c_26 => ?_)
    · have c_26 : ¬ ((f 12 (ix v3)) = 0) := c_26
      refine lv_iload_n hx hb dX3_clearRun_60 rfl (lv_at hl 2 rfl) ?_
      have hρ : kX3_clearRun_4 x1 (n + 1) i f v3 = (nI i) := (if_neg c_9).trans ((if_neg c_17).trans ((if_neg c_26)))
      have hρ := hρ0.trans hρ
      exact e_rd hx hb hr hlk dX3_clearRun_61 hρ.symm
    have c_26 : (f 12 (ix v3)) = 0 := c_26
    refine lv_iinc (v := (nI (i + 1))) (lv' := [(2, .int (nI (i + 1))), (0, .ref h), (1, .int x1), (3, .int v3)]) hx hb dX3_clearRun_29 hl (k := 2) rfl (nI_1 i) (by decide) rfl (fun ls hl => ?_)
    refine lv_iload_n hx hb dX3_clearRun_32 rfl (lv_at hl 3 rfl) ?_
    refine lv_iconst (v := 1) hx hb dX3_clearRun_33 (by decide) ?_
    refine lv_iadd hx hb dX3_clearRun_34 ?_
    refine lv_aload_n hx hb dX3_clearRun_35 rfl (lv_at hl 1 rfl) ?_
    refine va_get (v := .int (f 0 0)) (C := RX3) (T := TX3) (N := 15) (ci := 3) hx hb hts hinX3 hown hK hP 0 rfl rfl 0 (by decide) (hts (.fieldLink RX3 48 "AxleKeeper$Line" "sections" "I") (by decide +kernel)) (fun _ h9 => h9) rfl dX3_clearRun_36 ?_
    refine lv_icmp_ne (tgt := 53) hx hb dX3_clearRun_39 (by decide) (fun c_39 => ?_) (fun c_39 => ?_)
    · have c_39 : ¬ ((v3 + 1) = (f 0 0)) := c_39
      refine lv_iload_n hx hb dX3_clearRun_53 rfl (lv_at hl 3 rfl) ?_
      refine lv_iconst (v := 1) hx hb dX3_clearRun_54 (by decide) ?_
      refine lv_iadd hx hb dX3_clearRun_55 ?_
      refine lv_istore_n (lv' := [(3, .int (v3 + 1)), (2, .int (nI (i + 1))), (0, .ref h), (1, .int x1)]) hx hb dX3_clearRun_56 rfl hl (by decide) rfl (fun ls hl => ?_)
      refine lv_goto (tgt := 4) hx hb dX3_clearRun_57 (by decide) ?_
      have hρ : kX3_clearRun_4 x1 (n + 1) i f v3 = kX3_clearRun_4 x1 n (i + 1) f (v3 + 1) := (if_neg c_9).trans ((if_neg c_17).trans ((if_pos c_26).trans ((if_neg c_39))))
      have hρ := hρ0.trans hρ
      exact ih  (i + 1) (v3 + 1)   (by omega) (by omega)  (lv_sub hl [2, 3, 1, 0] rfl) _ hρ
    have c_39 : (v3 + 1) = (f 0 0) := c_39
    refine lv_aload_n hx hb dX3_clearRun_42 rfl (lv_at hl 1 rfl) ?_
    refine va_get (v := .int (f 1 0)) (C := RX3) (T := TX3) (N := 15) (ci := 3) hx hb hts hinX3 hown hK hP 0 rfl rfl 1 (by decide) (hts (.fieldLink RX3 52 "AxleKeeper$Line" "ring" "Z") (by decide +kernel)) (fun _ h9 => h9) rfl dX3_clearRun_43 ?_
    refine lv_if_eq (tgt := 53) hx hb dX3_clearRun_46 (by decide) (fun c_46 => ?_) (fun c_46 => ?_)
    · have c_46 : (f 1 0) = 0 := c_46
      refine lv_iload_n hx hb dX3_clearRun_53 rfl (lv_at hl 3 rfl) ?_
      refine lv_iconst (v := 1) hx hb dX3_clearRun_54 (by decide) ?_
      refine lv_iadd hx hb dX3_clearRun_55 ?_
      refine lv_istore_n (lv' := [(3, .int (v3 + 1)), (2, .int (nI (i + 1))), (0, .ref h), (1, .int x1)]) hx hb dX3_clearRun_56 rfl hl (by decide) rfl (fun ls hl => ?_)
      refine lv_goto (tgt := 4) hx hb dX3_clearRun_57 (by decide) ?_
      have hρ : kX3_clearRun_4 x1 (n + 1) i f v3 = kX3_clearRun_4 x1 n (i + 1) f (v3 + 1) := (if_neg c_9).trans ((if_neg c_17).trans ((if_pos c_26).trans ((if_pos c_39).trans ((if_pos c_46)))))
      have hρ := hρ0.trans hρ
      exact ih  (i + 1) (v3 + 1)   (by omega) (by omega)  (lv_sub hl [2, 3, 1, 0] rfl) _ hρ
    have c_46 : ¬ ((f 1 0) = 0) := c_46
    refine lv_iconst (v := 0) hx hb dX3_clearRun_49 (by decide) ?_
    refine lv_goto (tgt := 56) hx hb dX3_clearRun_50 (by decide) ?_
    refine lv_istore_n (lv' := [(3, .int 0), (2, .int (nI (i + 1))), (0, .ref h), (1, .int x1)]) hx hb dX3_clearRun_56 rfl hl (by decide) rfl (fun ls hl => ?_)
    refine lv_goto (tgt := 4) hx hb dX3_clearRun_57 (by decide) ?_
    have hρ : kX3_clearRun_4 x1 (n + 1) i f v3 = kX3_clearRun_4 x1 n (i + 1) f 0 := (if_neg c_9).trans ((if_neg c_17).trans ((if_pos c_26).trans ((if_pos c_39).trans ((if_neg c_46)))))
    have hρ := hρ0.trans hρ
    exact ih  (i + 1) 0   (by omega) (by omega)  (lv_sub hl [2, 3, 1, 0] rfl) _ hρ
set_option maxHeartbeats 4000000 in
set_option maxRecDepth 100000 in
theorem okX3_clearRun (l : Launch) (D : va_G) (cI cZ cQ : ClassId) (h : Nat) (a : Nat → Nat) (X : va_W) (f : Nat → Nat → Int32) (x1 : Int32) (hok : okL f) : Met l yX3_clearRun wsX3_clearRun ({ frames := 1, cells := 0, slots := 0, locals := 21 }) (PR [.ref h, .int x1] D (TY cI cZ cQ) (LW cI h a f ++ X)) (QR (kX3_clearRun f x1)) 0 0 (fun _ => False) := by
  refine m_rd (cc := cX3_clearRun) (maxL := 4) (ret := (some .int)) (by decide) rfl (Nat.le_of_ble_eq_true rfl) (lv0 := [(0, .ref h), (1, .int x1)]) rfl ?_
  intro p e s m below meth c ls S hr hlk hP hK hl
  have S : CallFix p m c cX3_clearRun 4 s ([.ref h, .int x1] : List Value).toArray wsX3_clearRun RX3 := S
  have hx := S.1
  have hb := S.2.1
  have hown : s.vm.findClass RX3 = some m.cls := S.2.2.2.1
  have hts := S.2.2.2.2
  have hinX3 : ∀ w ∈ wsX30, w ∈ wsX3_clearRun := by decide +kernel
  refine lv_iconst (v := 0) hx hb dX3_clearRun_0 (by decide) ?_
  refine lv_istore_n (lv' := [(2, .int 0), (0, .ref h), (1, .int x1)]) hx hb dX3_clearRun_1 rfl hl (by decide) rfl (fun ls hl => ?_)
  refine lv_iload_n hx hb dX3_clearRun_2 rfl (lv_at hl 2 rfl) ?_
  refine lv_istore_n (lv' := [(3, .int x1), (2, .int 0), (0, .ref h), (1, .int x1)]) hx hb dX3_clearRun_3 rfl hl (by decide) rfl (fun ls hl => ?_)
  have hρ : kX3_clearRun f x1 = kX3_clearRun_4 x1 7 0 f x1 := rfl
  exact lpX3_clearRun_4 l D cI cZ cQ h a X x1 f S hr hlk hK hok hP 7 0 x1   (by omega) (by omega)  (lv_sub hl [2, 3, 1, 0] rfl) _ hρ
end
section
theorem ndX3_countWheel : yX3_countWheel.cls = RX3 ∧ yX3_countWheel.cls ≠ "java/lang/invoke/MethodHandle" ∧ yX3_countWheel.cls ≠ "java/lang/invoke/VarHandle" ∧ (parseMethodDescriptor yX3_countWheel.desc).map (fun d => d.parameters.length) = some 1 := by decide +kernel
set_option maxHeartbeats 4000000 in
set_option maxRecDepth 100000 in
theorem okX3_countWheel (l : Launch) (D : va_G) (cI cZ cQ : ClassId) (h : Nat) (a : Nat → Nat) (X : va_W) (f : Nat → Nat → Int32) (x1 : Int32) (sz : Nat) (h1 : vp_in x1 7) : Met l yX3_countWheel wsX3_countWheel ({ frames := 0, cells := 0, slots := 0, locals := 0 }) (PW [.ref h, .int x1] sz D (TY cI cZ cQ) (LW cI h a f ++ X)) (QI (kX3_countWheel f x1).1 D (TY cI cZ cQ) (LW cI h a (kX3_countWheel f x1).2 ++ X) (va_A (LW cI h a f ++ X) sz)) 0 0 (va_A (LW cI h a f ++ X) sz) := by
  refine m_wr (cc := cX3_countWheel) (maxL := 2) (ret := (some .int)) (by decide) rfl (Nat.le_of_ble_eq_true rfl) (lv0 := [(0, .ref h), (1, .int x1)]) rfl ?_
  intro p e s m below meth c ls A hAe S hr hlk hP hK hD hS hA hl
  rw [← hAe]
  have S : CallFix p m c cX3_countWheel 2 s ([.ref h, .int x1] : List Value).toArray wsX3_countWheel RX3 := S
  have hx := S.1
  have hb := S.2.1
  have hown : s.vm.findClass RX3 = some m.cls := S.2.2.2.1
  have hts := S.2.2.2.2
  have hinX3 : ∀ w ∈ wsX30, w ∈ wsX3_countWheel := by decide +kernel
  refine lv_aload_n hx hb dX3_countWheel_0 rfl (lv_at hl 0 rfl) ?_
  refine va_get (v := .ref (a 4)) (C := RX3) (T := TX3) (N := 15) (ci := 3) hx hb hts hinX3 hown hK hP 0 rfl rfl 4 (by decide) (hts (.fieldLink RX3 15 "AxleKeeper$Line" "wheel" "[I") (by decide +kernel)) (fun _ h9 => h9) rfl dX3_countWheel_1 ?_
  refine lv_iload_n hx hb dX3_countWheel_4 rfl (lv_at hl 1 rfl) ?_
  refine va_iald hx hb hK hP 2 0 rfl rfl (n := 7) (by assumption) dX3_countWheel_5 ?_
  refine lv_iconst (v := 4) hx hb dX3_countWheel_6 (by decide) ?_
  refine lv_icmp_ne (tgt := 29) hx hb dX3_countWheel_7 (by decide) (fun c_7 => ?_) (fun c_7 => ?_)
  · have c_7 : ¬ ((f 4 (ix x1)) = 4) := c_7
    refine lv_aload_n hx hb dX3_countWheel_29 rfl (lv_at hl 0 rfl) ?_
    refine va_get (v := .ref (a 4)) (C := RX3) (T := TX3) (N := 15) (ci := 3) hx hb hts hinX3 hown hK hP 0 rfl rfl 4 (by decide) (hts (.fieldLink RX3 15 "AxleKeeper$Line" "wheel" "[I") (by decide +kernel)) (fun _ h9 => h9) rfl dX3_countWheel_30 ?_
    refine lv_iload_n hx hb dX3_countWheel_33 rfl (lv_at hl 1 rfl) ?_
    refine va_iald hx hb hK hP 2 0 rfl rfl (n := 7) (by assumption) dX3_countWheel_34 ?_
    refine lv_bipush (v := (-4)) hx hb dX3_countWheel_35 (by decide) ?_
    refine lv_icmp_ne (tgt := 59) hx hb dX3_countWheel_37 (by decide) (fun c_37 => ?_) (fun c_37 => ?_)
    · have c_37 : ¬ ((f 4 (ix x1)) = (-4)) := c_37
      refine lv_iconst (v := 0) hx hb dX3_countWheel_59 (by decide) ?_
      have hρ : kX3_countWheel f x1 = (0, f) := (if_neg c_7).trans ((if_neg c_37))
      exact e_wi hx hb hr hlk hK hP hD hS dX3_countWheel_60 (congrArg Prod.fst hρ).symm (congrArg (fun z => (LW cI h a z.2 ++ X)) hρ).symm
    have c_37 : (f 4 (ix x1)) = (-4) := c_37
    refine lv_aload_n hx hb dX3_countWheel_40 rfl (lv_at hl 0 rfl) ?_
    refine va_get (v := .ref (a 4)) (C := RX3) (T := TX3) (N := 15) (ci := 3) hx hb hts hinX3 hown hK hP 0 rfl rfl 4 (by decide) (hts (.fieldLink RX3 15 "AxleKeeper$Line" "wheel" "[I") (by decide +kernel)) (fun _ h9 => h9) rfl dX3_countWheel_41 ?_
    refine lv_iload_n hx hb dX3_countWheel_44 rfl (lv_at hl 1 rfl) ?_
    refine lv_iconst (v := 0) hx hb dX3_countWheel_45 (by decide) ?_
    refine st_L4 (x := 0) hx hb hK hP hD hS (by assumption) dX3_countWheel_46 (fun H locs hP hD hS => ?_)
    refine lv_aload_n hx hb dX3_countWheel_47 rfl (lv_at hl 0 rfl) ?_
    refine va_get (v := .ref (a 5)) (C := RX3) (T := TX3) (N := 15) (ci := 3) hx hb hts hinX3 hown hK hP 0 rfl rfl 5 (by decide) (hts (.fieldLink RX3 18 "AxleKeeper$Line" "count" "[I") (by decide +kernel)) (fun _ h9 => h9) rfl dX3_countWheel_48 ?_
    refine lv_iload_n hx hb dX3_countWheel_51 rfl (lv_at hl 1 rfl) ?_
    refine lv_dup2_11 hx hb dX3_countWheel_52 rfl rfl ?_
    refine va_iald hx hb hK hP 3 0 rfl rfl (n := 7) (by assumption) dX3_countWheel_53 ?_
    refine lv_iconst (v := 1) hx hb dX3_countWheel_54 (by decide) ?_
    refine lv_isub hx hb dX3_countWheel_55 ?_
    refine st_L5 (x := ((f 5 (ix x1)) - 1)) hx hb hK hP hD hS (by assumption) dX3_countWheel_56 (fun H locs hP hD hS => ?_)
    refine lv_iconst (v := 2) hx hb dX3_countWheel_57 (by decide) ?_
    have hρ : kX3_countWheel f x1 = (2, (up2 (up2 f 4 (ix x1) 0) 5 (ix x1) ((f 5 (ix x1)) - 1))) := (if_neg c_7).trans ((if_pos c_37))
    exact e_wi hx hb hr hlk hK hP hD hS dX3_countWheel_58 (congrArg Prod.fst hρ).symm (congrArg (fun z => (LW cI h a z.2 ++ X)) hρ).symm
  have c_7 : (f 4 (ix x1)) = 4 := c_7
  refine lv_aload_n hx hb dX3_countWheel_10 rfl (lv_at hl 0 rfl) ?_
  refine va_get (v := .ref (a 4)) (C := RX3) (T := TX3) (N := 15) (ci := 3) hx hb hts hinX3 hown hK hP 0 rfl rfl 4 (by decide) (hts (.fieldLink RX3 15 "AxleKeeper$Line" "wheel" "[I") (by decide +kernel)) (fun _ h9 => h9) rfl dX3_countWheel_11 ?_
  refine lv_iload_n hx hb dX3_countWheel_14 rfl (lv_at hl 1 rfl) ?_
  refine lv_iconst (v := 0) hx hb dX3_countWheel_15 (by decide) ?_
  refine st_L4 (x := 0) hx hb hK hP hD hS (by assumption) dX3_countWheel_16 (fun H locs hP hD hS => ?_)
  refine lv_aload_n hx hb dX3_countWheel_17 rfl (lv_at hl 0 rfl) ?_
  refine va_get (v := .ref (a 5)) (C := RX3) (T := TX3) (N := 15) (ci := 3) hx hb hts hinX3 hown hK hP 0 rfl rfl 5 (by decide) (hts (.fieldLink RX3 18 "AxleKeeper$Line" "count" "[I") (by decide +kernel)) (fun _ h9 => h9) rfl dX3_countWheel_18 ?_
  refine lv_iload_n hx hb dX3_countWheel_21 rfl (lv_at hl 1 rfl) ?_
  refine lv_dup2_11 hx hb dX3_countWheel_22 rfl rfl ?_
  refine va_iald hx hb hK hP 3 0 rfl rfl (n := 7) (by assumption) dX3_countWheel_23 ?_
  refine lv_iconst (v := 1) hx hb dX3_countWheel_24 (by decide) ?_
  refine lv_iadd hx hb dX3_countWheel_25 ?_
  refine st_L5 (x := ((f 5 (ix x1)) + 1)) hx hb hK hP hD hS (by assumption) dX3_countWheel_26 (fun H locs hP hD hS => ?_)
  refine lv_iconst (v := 1) hx hb dX3_countWheel_27 (by decide) ?_
  have hρ : kX3_countWheel f x1 = (1, (up2 (up2 f 4 (ix x1) 0) 5 (ix x1) ((f 5 (ix x1)) + 1))) := (if_pos c_7)
  exact e_wi hx hb hr hlk hK hP hD hS dX3_countWheel_28 (congrArg Prod.fst hρ).symm (congrArg (fun z => (LW cI h a z.2 ++ X)) hρ).symm
theorem ndX3_carry : yX3_carry.cls = RX3 ∧ yX3_carry.cls ≠ "java/lang/invoke/MethodHandle" ∧ yX3_carry.cls ≠ "java/lang/invoke/VarHandle" ∧ (parseMethodDescriptor yX3_carry.desc).map (fun d => d.parameters.length) = some 4 := by decide +kernel
set_option maxHeartbeats 4000000 in
set_option maxRecDepth 100000 in
theorem okX3_carry (l : Launch) (D : va_G) (cI cZ cQ : ClassId) (h : Nat) (a : Nat → Nat) (X : va_W) (f : Nat → Nat → Int32) (x1 x2 x3 x4 : Int32) (sz : Nat) (hok : okL f) (h1 : vp_in x1 7) : Met l yX3_carry wsX3_carry ({ frames := 2, cells := 0, slots := 0, locals := 43 }) (PW [.ref h, .int x1, .int x2, .int x3, .int x4] sz D (TY cI cZ cQ) (LW cI h a f ++ X)) (QI (kX3_carry f x1 x2 x3 x4).1 D (TY cI cZ cQ) (LW cI h a (kX3_carry f x1 x2 x3 x4).2 ++ X) (va_A (LW cI h a f ++ X) sz)) 0 0 (va_A (LW cI h a f ++ X) sz) := by
  refine m_wr (cc := cX3_carry) (maxL := 7) (ret := (some .int)) (by decide) rfl (Nat.le_of_ble_eq_true rfl) (lv0 := [(0, .ref h), (1, .int x1), (2, .int x2), (3, .int x3), (4, .int x4)]) rfl ?_
  intro p e s m below meth c ls A hAe S hr hlk hP hK hD hS hA hl
  rw [← hAe]
  have S : CallFix p m c cX3_carry 7 s ([.ref h, .int x1, .int x2, .int x3, .int x4] : List Value).toArray wsX3_carry RX3 := S
  have hx := S.1
  have hb := S.2.1
  have hown : s.vm.findClass RX3 = some m.cls := S.2.2.2.1
  have hts := S.2.2.2.2
  have hinX3 : ∀ w ∈ wsX30, w ∈ wsX3_carry := by decide +kernel
  refine lv_aload_n hx hb dX3_carry_0 rfl (lv_at hl 0 rfl) ?_
  refine lv_iload_n hx hb dX3_carry_1 rfl (lv_at hl 1 rfl) ?_
  refine lv_iload_n hx hb dX3_carry_2 rfl (lv_at hl 2 rfl) ?_
  refine k_rd (As := [.int x1, .int x2]) (rest := []) (bytes := cX3_from) (C := RX3) S (okX3_from l D cI cZ cQ h a X f x1 x2) gX3_carry_X3_from rfl ⟨rfl, rfl⟩ ndX3_from ⟨Nat.le_of_ble_eq_true rfl, Nat.le_of_ble_eq_true rfl⟩ hK hP 0 rfl rfl rfl hl rfl (Nat.le_of_ble_eq_true rfl) dX3_carry_3 ⟨Nat.zero_le _, Nat.zero_le _⟩ ?_
  refine lv_istore (lv' := [(5, .int (kX3_from f x1 x2)), (0, .ref h), (1, .int x1), (2, .int x2), (3, .int x3), (4, .int x4)]) hx hb dX3_carry_6 hl (by decide) rfl (fun ls hl => ?_)
  refine lv_iload_n hx hb dX3_carry_8 rfl (lv_at hl 3 rfl) ?_
  refine lv_if_ne (tgt := 20) hx hb dX3_carry_9 (by decide) (fun c_9 => ?_) (fun c_9 => ?_)
  · have c_9 : ¬ (x2 = 0) := c_9
    refine lv_aload_n hx hb dX3_carry_20 rfl (lv_at hl 1 rfl) ?_
    refine lv_iload_n hx hb dX3_carry_21 rfl (lv_at hl 2 rfl) ?_
    refine k_rd (As := [.int x1]) (rest := []) (bytes := cX3_leftOf) (C := RX3) S (okX3_leftOf l D cI cZ cQ h a X f x1) gX3_carry_X3_leftOf rfl ⟨rfl, rfl⟩ ndX3_leftOf ⟨Nat.le_of_ble_eq_true rfl, Nat.le_of_ble_eq_true rfl⟩ hK hP 0 rfl rfl rfl hl rfl (Nat.le_of_ble_eq_true rfl) dX3_carry_22 ⟨Nat.zero_le _, Nat.zero_le _⟩ ?_
    refine lv_istore (lv' := [(6, .int (kX3_leftOf f x1)), (5, .int (kX3_from f x1 x2)), (0, .ref h), (1, .int x1), (2, .int x2), (3, .int x3), (4, .int x4)]) hx hb dX3_carry_25 hl (by decide) rfl (fun ls hl => ?_)
    refine lv_iload hx hb dX3_carry_27 (lv_at hl 6 rfl) ?_
    refine lv_if_eq (tgt := 51) hx hb dX3_carry_29 (by decide) (fun c_29 => ?_) (fun c_29 => ?_)
    · have c_29 : x4 = 0 := c_29
      refine lv_aload_n hx hb dX3_carry_51 rfl (lv_at hl 2 rfl) ?_
      refine lv_iload hx hb dX3_carry_52 (lv_at hl 1 rfl) ?_
      refine k_rd (As := [.int (kX3_from f x1 x2)]) (rest := []) (bytes := cX3_hasSection) (C := RX3) S (okX3_hasSection l D cI cZ cQ h a X f (kX3_from f x1 x2)) gX3_carry_X3_hasSection rfl ⟨rfl, rfl⟩ ndX3_hasSection ⟨Nat.le_of_ble_eq_true rfl, Nat.le_of_ble_eq_true rfl⟩ hK hP 0 rfl rfl rfl hl rfl (Nat.le_of_ble_eq_true rfl) dX3_carry_54 ⟨Nat.zero_le _, Nat.zero_le _⟩ ?_
      refine lv_if_eq (tgt := 71) hx hb dX3_carry_57 (by decide) (fun c_57 => ?_) (fun c_57 => ?_)
      · have c_57 : (kX3_hasSection f (kX3_from f x1 x2)) = 0 := c_57
        refine lv_aload_n hx hb dX3_carry_71 rfl (lv_at hl 2 rfl) ?_
        refine lv_iload hx hb dX3_carry_72 (lv_at hl 0 rfl) ?_
        refine k_rd (As := [.int (kX3_leftOf f x1)]) (rest := []) (bytes := cX3_hasSection) (C := RX3) S (okX3_hasSection l D cI cZ cQ h a X f (kX3_leftOf f x1)) gX3_carry_X3_hasSection rfl ⟨rfl, rfl⟩ ndX3_hasSection ⟨Nat.le_of_ble_eq_true rfl, Nat.le_of_ble_eq_true rfl⟩ hK hP 0 rfl rfl rfl hl rfl (Nat.le_of_ble_eq_true rfl) dX3_carry_74 ⟨Nat.zero_le _, Nat.zero_le _⟩ ?_
        refine lv_if_ne (tgt := 82) hx hb dX3_carry_77 (by decide) (fun c_77 => ?_) (fun c_77 => ?_)
        · have c_77 : ¬ ((kX3_hasSection f (kX3_leftOf f x1)) = 0) := c_77
          have hv2 : vp_in _ 6 := hs_in hok c_77
          refine lv_aload_n hx hb dX3_carry_82 rfl (lv_at hl 2 rfl) ?_
          refine va_get (v := .ref (a 14)) (C := RX3) (T := TX3) (N := 15) (ci := 3) hx hb hts hinX3 hown hK hP 0 rfl rfl 14 (by decide) (hts (.fieldLink RX3 45 "AxleKeeper$Line" "axles" "[I") (by decide +kernel)) (fun _ h9 => h9) rfl dX3_carry_83 ?_
          refine lv_iload hx hb dX3_carry_86 (lv_at hl 0 rfl) ?_
          refine lv_dup2_11 hx hb dX3_carry_88 rfl rfl ?_
          refine va_iald hx hb hK hP 12 0 rfl rfl (n := 6) (by assumption) dX3_carry_89 ?_
          refine lv_iload_n hx hb dX3_carry_90 rfl (lv_at hl 5 rfl) ?_
          refine lv_iadd hx hb dX3_carry_91 ?_
          refine st_L14 (x := ((f 14 (ix (kX3_leftOf f x1))) + x3)) hx hb hK hP hD hS (by assumption) dX3_carry_92 (fun H locs hP hD hS => ?_)
          refine lv_aload_n hx hb dX3_carry_93 rfl (lv_at hl 2 rfl) ?_
          refine va_get (v := .ref (a 14)) (C := RX3) (T := TX3) (N := 15) (ci := 3) hx hb hts hinX3 hown hK hP 0 rfl rfl 14 (by decide) (hts (.fieldLink RX3 45 "AxleKeeper$Line" "axles" "[I") (by decide +kernel)) (fun _ h9 => h9) rfl dX3_carry_94 ?_
          refine lv_iload hx hb dX3_carry_97 (lv_at hl 0 rfl) ?_
          refine va_iald hx hb hK hP 12 0 rfl rfl (n := 6) (by assumption) dX3_carry_99 ?_
          have hρ : kX3_carry f x1 x2 x3 x4 = (((up2 f 14 (ix (kX3_leftOf f x1)) ((f 14 (ix (kX3_leftOf f x1))) + x3)) 14 (ix (kX3_leftOf f x1))), (up2 f 14 (ix (kX3_leftOf f x1)) ((f 14 (ix (kX3_leftOf f x1))) + x3))) := (if_neg c_9).trans ((if_pos c_29).trans ((if_pos c_57).trans ((if_neg c_77))))
          exact e_wi hx hb hr hlk hK hP hD hS dX3_carry_100 (congrArg Prod.fst hρ).symm (congrArg (fun z => (LW cI h a z.2 ++ X)) hρ).symm
        have c_77 : (kX3_hasSection f (kX3_leftOf f x1)) = 0 := c_77
        refine lv_iconst (v := 0) hx hb dX3_carry_80 (by decide) ?_
        have hρ : kX3_carry f x1 x2 x3 x4 = (0, f) := (if_neg c_9).trans ((if_pos c_29).trans ((if_pos c_57).trans ((if_pos c_77))))
        exact e_wi hx hb hr hlk hK hP hD hS dX3_carry_81 (congrArg Prod.fst hρ).symm (congrArg (fun z => (LW cI h a z.2 ++ X)) hρ).symm
      have c_57 : ¬ ((kX3_hasSection f (kX3_from f x1 x2)) = 0) := c_57
      have hv1 : vp_in _ 6 := hs_in hok c_57
      refine lv_aload_n hx hb dX3_carry_60 rfl (lv_at hl 2 rfl) ?_
      refine va_get (v := .ref (a 14)) (C := RX3) (T := TX3) (N := 15) (ci := 3) hx hb hts hinX3 hown hK hP 0 rfl rfl 14 (by decide) (hts (.fieldLink RX3 45 "AxleKeeper$Line" "axles" "[I") (by decide +kernel)) (fun _ h9 => h9) rfl dX3_carry_61 ?_
      refine lv_iload hx hb dX3_carry_64 (lv_at hl 1 rfl) ?_
      refine lv_dup2_11 hx hb dX3_carry_66 rfl rfl ?_
      refine va_iald hx hb hK hP 12 0 rfl rfl (n := 6) (by assumption) dX3_carry_67 ?_
      refine lv_iload_n hx hb dX3_carry_68 rfl (lv_at hl 5 rfl) ?_
      refine lv_isub hx hb dX3_carry_69 ?_
      refine st_L14 (x := ((f 14 (ix (kX3_from f x1 x2))) - x3)) hx hb hK hP hD hS (by assumption) dX3_carry_70 (fun H locs hP hD hS => ?_)
      refine lv_aload_n hx hb dX3_carry_71 rfl (lv_at hl 2 rfl) ?_
      refine lv_iload hx hb dX3_carry_72 (lv_at hl 0 rfl) ?_
      refine k_rd (As := [.int (kX3_leftOf f x1)]) (rest := []) (bytes := cX3_hasSection) (C := RX3) S (okX3_hasSection l D cI cZ cQ h a X (up2 f 14 (ix (kX3_from f x1 x2)) ((f 14 (ix (kX3_from f x1 x2))) - x3)) (kX3_leftOf f x1)) gX3_carry_X3_hasSection rfl ⟨rfl, rfl⟩ ndX3_hasSection ⟨Nat.le_of_ble_eq_true rfl, Nat.le_of_ble_eq_true rfl⟩ hK hP 0 rfl rfl rfl hl rfl (Nat.le_of_ble_eq_true rfl) dX3_carry_74 ⟨Nat.zero_le _, Nat.zero_le _⟩ ?_
      refine lv_if_ne (tgt := 82) hx hb dX3_carry_77 (by decide) (fun c_77 => ?_) (fun c_77 => ?_)
      · have c_77 : ¬ ((kX3_hasSection (up2 f 14 (ix (kX3_from f x1 x2)) ((f 14 (ix (kX3_from f x1 x2))) - x3)) (kX3_leftOf f x1)) = 0) := c_77
        have hv2 : vp_in _ 6 := hs_in hok c_77
        refine lv_aload_n hx hb dX3_carry_82 rfl (lv_at hl 2 rfl) ?_
        refine va_get (v := .ref (a 14)) (C := RX3) (T := TX3) (N := 15) (ci := 3) hx hb hts hinX3 hown hK hP 0 rfl rfl 14 (by decide) (hts (.fieldLink RX3 45 "AxleKeeper$Line" "axles" "[I") (by decide +kernel)) (fun _ h9 => h9) rfl dX3_carry_83 ?_
        refine lv_iload hx hb dX3_carry_86 (lv_at hl 0 rfl) ?_
        refine lv_dup2_11 hx hb dX3_carry_88 rfl rfl ?_
        refine va_iald hx hb hK hP 12 0 rfl rfl (n := 6) (by assumption) dX3_carry_89 ?_
        refine lv_iload_n hx hb dX3_carry_90 rfl (lv_at hl 5 rfl) ?_
        refine lv_iadd hx hb dX3_carry_91 ?_
        refine st_L14 (x := (((up2 f 14 (ix (kX3_from f x1 x2)) ((f 14 (ix (kX3_from f x1 x2))) - x3)) 14 (ix (kX3_leftOf f x1))) + x3)) hx hb hK hP hD hS (by assumption) dX3_carry_92 (fun H locs hP hD hS => ?_)
        refine lv_aload_n hx hb dX3_carry_93 rfl (lv_at hl 2 rfl) ?_
        refine va_get (v := .ref (a 14)) (C := RX3) (T := TX3) (N := 15) (ci := 3) hx hb hts hinX3 hown hK hP 0 rfl rfl 14 (by decide) (hts (.fieldLink RX3 45 "AxleKeeper$Line" "axles" "[I") (by decide +kernel)) (fun _ h9 => h9) rfl dX3_carry_94 ?_
        refine lv_iload hx hb dX3_carry_97 (lv_at hl 0 rfl) ?_
        refine va_iald hx hb hK hP 12 0 rfl rfl (n := 6) (by assumption) dX3_carry_99 ?_
        have hρ : kX3_carry f x1 x2 x3 x4 = (((up2 (up2 f 14 (ix (kX3_from f x1 x2)) ((f 14 (ix (kX3_from f x1 x2))) - x3)) 14 (ix (kX3_leftOf f x1)) (((up2 f 14 (ix (kX3_from f x1 x2)) ((f 14 (ix (kX3_from f x1 x2))) - x3)) 14 (ix (kX3_leftOf f x1))) + x3)) 14 (ix (kX3_leftOf f x1))), (up2 (up2 f 14 (ix (kX3_from f x1 x2)) ((f 14 (ix (kX3_from f x1 x2))) - x3)) 14 (ix (kX3_leftOf f x1)) (((up2 f 14 (ix (kX3_from f x1 x2)) ((f 14 (ix (kX3_from f x1 x2))) - x3)) 14 (ix (kX3_leftOf f x1))) + x3))) := (if_neg c_9).trans ((if_pos c_29).trans ((if_neg c_57).trans ((if_neg c_77))))
        exact e_wi hx hb hr hlk hK hP hD hS dX3_carry_100 (congrArg Prod.fst hρ).symm (congrArg (fun z => (LW cI h a z.2 ++ X)) hρ).symm
      have c_77 : (kX3_hasSection (up2 f 14 (ix (kX3_from f x1 x2)) ((f 14 (ix (kX3_from f x1 x2))) - x3)) (kX3_leftOf f x1)) = 0 := c_77
      refine lv_iconst (v := 0) hx hb dX3_carry_80 (by decide) ?_
      have hρ : kX3_carry f x1 x2 x3 x4 = (0, (up2 f 14 (ix (kX3_from f x1 x2)) ((f 14 (ix (kX3_from f x1 x2))) - x3))) := (if_neg c_9).trans ((if_pos c_29).trans ((if_neg c_57).trans ((if_pos c_77))))
      exact e_wi hx hb hr hlk hK hP hD hS dX3_carry_81 (congrArg Prod.fst hρ).symm (congrArg (fun z => (LW cI h a z.2 ++ X)) hρ).symm
    have c_29 : ¬ (x4 = 0) := c_29
    refine lv_aload_n hx hb dX3_carry_32 rfl (lv_at hl 2 rfl) ?_
    refine va_get (v := .ref (a 5)) (C := RX3) (T := TX3) (N := 15) (ci := 3) hx hb hts hinX3 hown hK hP 0 rfl rfl 5 (by decide) (hts (.fieldLink RX3 18 "AxleKeeper$Line" "count" "[I") (by decide +kernel)) (fun _ h9 => h9) rfl dX3_carry_33 ?_
    refine lv_iload_n hx hb dX3_carry_36 rfl (lv_at hl 3 rfl) ?_
    refine lv_dup2_11 hx hb dX3_carry_37 rfl rfl ?_
    refine va_iald hx hb hK hP 3 0 rfl rfl (n := 7) (by assumption) dX3_carry_38 ?_
    refine lv_iload_n hx hb dX3_carry_39 rfl (lv_at hl 4 rfl) ?_
    refine lv_if_ne (tgt := 47) hx hb dX3_carry_40 (by decide) (fun c_40 => ?_) (fun c_40 => absurd c_40 c_9)
    refine lv_iload_n hx hb dX3_carry_47 rfl (lv_at hl 5 rfl) ?_
    refine lv_ineg hx hb dX3_carry_48 ?_
    refine lv_iadd hx hb dX3_carry_49 ?_
    refine st_L5 (x := ((f 5 (ix x1)) + (-x3))) hx hb hK hP hD hS (by assumption) dX3_carry_50 (fun H locs hP hD hS => ?_)
    refine lv_aload_n hx hb dX3_carry_51 rfl (lv_at hl 2 rfl) ?_
    refine lv_iload hx hb dX3_carry_52 (lv_at hl 1 rfl) ?_
    refine k_rd (As := [.int (kX3_from f x1 x2)]) (rest := []) (bytes := cX3_hasSection) (C := RX3) S (okX3_hasSection l D cI cZ cQ h a X (up2 f 5 (ix x1) ((f 5 (ix x1)) + (-x3))) (kX3_from f x1 x2)) gX3_carry_X3_hasSection rfl ⟨rfl, rfl⟩ ndX3_hasSection ⟨Nat.le_of_ble_eq_true rfl, Nat.le_of_ble_eq_true rfl⟩ hK hP 0 rfl rfl rfl hl rfl (Nat.le_of_ble_eq_true rfl) dX3_carry_54 ⟨Nat.zero_le _, Nat.zero_le _⟩ ?_
    refine lv_if_eq (tgt := 71) hx hb dX3_carry_57 (by decide) (fun c_57 => ?_) (fun c_57 => ?_)
    · have c_57 : (kX3_hasSection (up2 f 5 (ix x1) ((f 5 (ix x1)) + (-x3))) (kX3_from f x1 x2)) = 0 := c_57
      refine lv_aload_n hx hb dX3_carry_71 rfl (lv_at hl 2 rfl) ?_
      refine lv_iload hx hb dX3_carry_72 (lv_at hl 0 rfl) ?_
      refine k_rd (As := [.int (kX3_leftOf f x1)]) (rest := []) (bytes := cX3_hasSection) (C := RX3) S (okX3_hasSection l D cI cZ cQ h a X (up2 f 5 (ix x1) ((f 5 (ix x1)) + (-x3))) (kX3_leftOf f x1)) gX3_carry_X3_hasSection rfl ⟨rfl, rfl⟩ ndX3_hasSection ⟨Nat.le_of_ble_eq_true rfl, Nat.le_of_ble_eq_true rfl⟩ hK hP 0 rfl rfl rfl hl rfl (Nat.le_of_ble_eq_true rfl) dX3_carry_74 ⟨Nat.zero_le _, Nat.zero_le _⟩ ?_
      refine lv_if_ne (tgt := 82) hx hb dX3_carry_77 (by decide) (fun c_77 => ?_) (fun c_77 => ?_)
      · have c_77 : ¬ ((kX3_hasSection (up2 f 5 (ix x1) ((f 5 (ix x1)) + (-x3))) (kX3_leftOf f x1)) = 0) := c_77
        have hv2 : vp_in _ 6 := hs_in hok c_77
        refine lv_aload_n hx hb dX3_carry_82 rfl (lv_at hl 2 rfl) ?_
        refine va_get (v := .ref (a 14)) (C := RX3) (T := TX3) (N := 15) (ci := 3) hx hb hts hinX3 hown hK hP 0 rfl rfl 14 (by decide) (hts (.fieldLink RX3 45 "AxleKeeper$Line" "axles" "[I") (by decide +kernel)) (fun _ h9 => h9) rfl dX3_carry_83 ?_
        refine lv_iload hx hb dX3_carry_86 (lv_at hl 0 rfl) ?_
        refine lv_dup2_11 hx hb dX3_carry_88 rfl rfl ?_
        refine va_iald hx hb hK hP 12 0 rfl rfl (n := 6) (by assumption) dX3_carry_89 ?_
        refine lv_iload_n hx hb dX3_carry_90 rfl (lv_at hl 5 rfl) ?_
        refine lv_iadd hx hb dX3_carry_91 ?_
        refine st_L14 (x := ((f 14 (ix (kX3_leftOf f x1))) + x3)) hx hb hK hP hD hS (by assumption) dX3_carry_92 (fun H locs hP hD hS => ?_)
        refine lv_aload_n hx hb dX3_carry_93 rfl (lv_at hl 2 rfl) ?_
        refine va_get (v := .ref (a 14)) (C := RX3) (T := TX3) (N := 15) (ci := 3) hx hb hts hinX3 hown hK hP 0 rfl rfl 14 (by decide) (hts (.fieldLink RX3 45 "AxleKeeper$Line" "axles" "[I") (by decide +kernel)) (fun _ h9 => h9) rfl dX3_carry_94 ?_
        refine lv_iload hx hb dX3_carry_97 (lv_at hl 0 rfl) ?_
        refine va_iald hx hb hK hP 12 0 rfl rfl (n := 6) (by assumption) dX3_carry_99 ?_
        have hρ : kX3_carry f x1 x2 x3 x4 = (((up2 (up2 f 5 (ix x1) ((f 5 (ix x1)) + (-x3))) 14 (ix (kX3_leftOf f x1)) ((f 14 (ix (kX3_leftOf f x1))) + x3)) 14 (ix (kX3_leftOf f x1))), (up2 (up2 f 5 (ix x1) ((f 5 (ix x1)) + (-x3))) 14 (ix (kX3_leftOf f x1)) ((f 14 (ix (kX3_leftOf f x1))) + x3))) := (if_neg c_9).trans ((if_neg c_29).trans ((if_pos c_57).trans ((if_neg c_77))))
        exact e_wi hx hb hr hlk hK hP hD hS dX3_carry_100 (congrArg Prod.fst hρ).symm (congrArg (fun z => (LW cI h a z.2 ++ X)) hρ).symm
      have c_77 : (kX3_hasSection (up2 f 5 (ix x1) ((f 5 (ix x1)) + (-x3))) (kX3_leftOf f x1)) = 0 := c_77
      refine lv_iconst (v := 0) hx hb dX3_carry_80 (by decide) ?_
      have hρ : kX3_carry f x1 x2 x3 x4 = (0, (up2 f 5 (ix x1) ((f 5 (ix x1)) + (-x3)))) := (if_neg c_9).trans ((if_neg c_29).trans ((if_pos c_57).trans ((if_pos c_77))))
      exact e_wi hx hb hr hlk hK hP hD hS dX3_carry_81 (congrArg Prod.fst hρ).symm (congrArg (fun z => (LW cI h a z.2 ++ X)) hρ).symm
    have c_57 : ¬ ((kX3_hasSection (up2 f 5 (ix x1) ((f 5 (ix x1)) + (-x3))) (kX3_from f x1 x2)) = 0) := c_57
    have hv1 : vp_in _ 6 := hs_in hok c_57
    refine lv_aload_n hx hb dX3_carry_60 rfl (lv_at hl 2 rfl) ?_
    refine va_get (v := .ref (a 14)) (C := RX3) (T := TX3) (N := 15) (ci := 3) hx hb hts hinX3 hown hK hP 0 rfl rfl 14 (by decide) (hts (.fieldLink RX3 45 "AxleKeeper$Line" "axles" "[I") (by decide +kernel)) (fun _ h9 => h9) rfl dX3_carry_61 ?_
    refine lv_iload hx hb dX3_carry_64 (lv_at hl 1 rfl) ?_
    refine lv_dup2_11 hx hb dX3_carry_66 rfl rfl ?_
    refine va_iald hx hb hK hP 12 0 rfl rfl (n := 6) (by assumption) dX3_carry_67 ?_
    refine lv_iload_n hx hb dX3_carry_68 rfl (lv_at hl 5 rfl) ?_
    refine lv_isub hx hb dX3_carry_69 ?_
    refine st_L14 (x := ((f 14 (ix (kX3_from f x1 x2))) - x3)) hx hb hK hP hD hS (by assumption) dX3_carry_70 (fun H locs hP hD hS => ?_)
    refine lv_aload_n hx hb dX3_carry_71 rfl (lv_at hl 2 rfl) ?_
    refine lv_iload hx hb dX3_carry_72 (lv_at hl 0 rfl) ?_
    refine k_rd (As := [.int (kX3_leftOf f x1)]) (rest := []) (bytes := cX3_hasSection) (C := RX3) S (okX3_hasSection l D cI cZ cQ h a X (up2 (up2 f 5 (ix x1) ((f 5 (ix x1)) + (-x3))) 14 (ix (kX3_from f x1 x2)) ((f 14 (ix (kX3_from f x1 x2))) - x3)) (kX3_leftOf f x1)) gX3_carry_X3_hasSection rfl ⟨rfl, rfl⟩ ndX3_hasSection ⟨Nat.le_of_ble_eq_true rfl, Nat.le_of_ble_eq_true rfl⟩ hK hP 0 rfl rfl rfl hl rfl (Nat.le_of_ble_eq_true rfl) dX3_carry_74 ⟨Nat.zero_le _, Nat.zero_le _⟩ ?_
    refine lv_if_ne (tgt := 82) hx hb dX3_carry_77 (by decide) (fun c_77 => ?_) (fun c_77 => ?_)
    · have c_77 : ¬ ((kX3_hasSection (up2 (up2 f 5 (ix x1) ((f 5 (ix x1)) + (-x3))) 14 (ix (kX3_from f x1 x2)) ((f 14 (ix (kX3_from f x1 x2))) - x3)) (kX3_leftOf f x1)) = 0) := c_77
      have hv2 : vp_in _ 6 := hs_in hok c_77
      refine lv_aload_n hx hb dX3_carry_82 rfl (lv_at hl 2 rfl) ?_
      refine va_get (v := .ref (a 14)) (C := RX3) (T := TX3) (N := 15) (ci := 3) hx hb hts hinX3 hown hK hP 0 rfl rfl 14 (by decide) (hts (.fieldLink RX3 45 "AxleKeeper$Line" "axles" "[I") (by decide +kernel)) (fun _ h9 => h9) rfl dX3_carry_83 ?_
      refine lv_iload hx hb dX3_carry_86 (lv_at hl 0 rfl) ?_
      refine lv_dup2_11 hx hb dX3_carry_88 rfl rfl ?_
      refine va_iald hx hb hK hP 12 0 rfl rfl (n := 6) (by assumption) dX3_carry_89 ?_
      refine lv_iload_n hx hb dX3_carry_90 rfl (lv_at hl 5 rfl) ?_
      refine lv_iadd hx hb dX3_carry_91 ?_
      refine st_L14 (x := (((up2 (up2 f 5 (ix x1) ((f 5 (ix x1)) + (-x3))) 14 (ix (kX3_from f x1 x2)) ((f 14 (ix (kX3_from f x1 x2))) - x3)) 14 (ix (kX3_leftOf f x1))) + x3)) hx hb hK hP hD hS (by assumption) dX3_carry_92 (fun H locs hP hD hS => ?_)
      refine lv_aload_n hx hb dX3_carry_93 rfl (lv_at hl 2 rfl) ?_
      refine va_get (v := .ref (a 14)) (C := RX3) (T := TX3) (N := 15) (ci := 3) hx hb hts hinX3 hown hK hP 0 rfl rfl 14 (by decide) (hts (.fieldLink RX3 45 "AxleKeeper$Line" "axles" "[I") (by decide +kernel)) (fun _ h9 => h9) rfl dX3_carry_94 ?_
      refine lv_iload hx hb dX3_carry_97 (lv_at hl 0 rfl) ?_
      refine va_iald hx hb hK hP 12 0 rfl rfl (n := 6) (by assumption) dX3_carry_99 ?_
      have hρ : kX3_carry f x1 x2 x3 x4 = (((up2 (up2 (up2 f 5 (ix x1) ((f 5 (ix x1)) + (-x3))) 14 (ix (kX3_from f x1 x2)) ((f 14 (ix (kX3_from f x1 x2))) - x3)) 14 (ix (kX3_leftOf f x1)) (((up2 (up2 f 5 (ix x1) ((f 5 (ix x1)) + (-x3))) 14 (ix (kX3_from f x1 x2)) ((f 14 (ix (kX3_from f x1 x2))) - x3)) 14 (ix (kX3_leftOf f x1))) + x3)) 14 (ix (kX3_leftOf f x1))), (up2 (up2 (up2 f 5 (ix x1) ((f 5 (ix x1)) + (-x3))) 14 (ix (kX3_from f x1 x2)) ((f 14 (ix (kX3_from f x1 x2))) - x3)) 14 (ix (kX3_leftOf f x1)) (((up2 (up2 f 5 (ix x1) ((f 5 (ix x1)) + (-x3))) 14 (ix (kX3_from f x1 x2)) ((f 14 (ix (kX3_from f x1 x2))) - x3)) 14 (ix (kX3_leftOf f x1))) + x3))) := (if_neg c_9).trans ((if_neg c_29).trans ((if_neg c_57).trans ((if_neg c_77))))
      exact e_wi hx hb hr hlk hK hP hD hS dX3_carry_100 (congrArg Prod.fst hρ).symm (congrArg (fun z => (LW cI h a z.2 ++ X)) hρ).symm
    have c_77 : (kX3_hasSection (up2 (up2 f 5 (ix x1) ((f 5 (ix x1)) + (-x3))) 14 (ix (kX3_from f x1 x2)) ((f 14 (ix (kX3_from f x1 x2))) - x3)) (kX3_leftOf f x1)) = 0 := c_77
    refine lv_iconst (v := 0) hx hb dX3_carry_80 (by decide) ?_
    have hρ : kX3_carry f x1 x2 x3 x4 = (0, (up2 (up2 f 5 (ix x1) ((f 5 (ix x1)) + (-x3))) 14 (ix (kX3_from f x1 x2)) ((f 14 (ix (kX3_from f x1 x2))) - x3))) := (if_neg c_9).trans ((if_neg c_29).trans ((if_neg c_57).trans ((if_pos c_77))))
    exact e_wi hx hb hr hlk hK hP hD hS dX3_carry_81 (congrArg Prod.fst hρ).symm (congrArg (fun z => (LW cI h a z.2 ++ X)) hρ).symm
  have c_9 : x2 = 0 := c_9
  refine lv_aload_n hx hb dX3_carry_12 rfl (lv_at hl 1 rfl) ?_
  refine lv_iload_n hx hb dX3_carry_13 rfl (lv_at hl 2 rfl) ?_
  refine k_rd (As := [.int x1]) (rest := []) (bytes := cX3_rightOf) (C := RX3) S (okX3_rightOf l D cI cZ cQ h a X f x1) gX3_carry_X3_rightOf rfl ⟨rfl, rfl⟩ ndX3_rightOf ⟨Nat.le_of_ble_eq_true rfl, Nat.le_of_ble_eq_true rfl⟩ hK hP 0 rfl rfl rfl hl rfl (Nat.le_of_ble_eq_true rfl) dX3_carry_14 ⟨Nat.zero_le _, Nat.zero_le _⟩ ?_
  refine lv_goto (tgt := 25) hx hb dX3_carry_17 (by decide) ?_
  refine lv_istore (lv' := [(6, .int (kX3_rightOf f x1)), (5, .int (kX3_from f x1 x2)), (0, .ref h), (1, .int x1), (2, .int x2), (3, .int x3), (4, .int x4)]) hx hb dX3_carry_25 hl (by decide) rfl (fun ls hl => ?_)
  refine lv_iload hx hb dX3_carry_27 (lv_at hl 6 rfl) ?_
  refine lv_if_eq (tgt := 51) hx hb dX3_carry_29 (by decide) (fun c_29 => ?_) (fun c_29 => ?_)
  · have c_29 : x4 = 0 := c_29
    refine lv_aload_n hx hb dX3_carry_51 rfl (lv_at hl 2 rfl) ?_
    refine lv_iload hx hb dX3_carry_52 (lv_at hl 1 rfl) ?_
    refine k_rd (As := [.int (kX3_from f x1 x2)]) (rest := []) (bytes := cX3_hasSection) (C := RX3) S (okX3_hasSection l D cI cZ cQ h a X f (kX3_from f x1 x2)) gX3_carry_X3_hasSection rfl ⟨rfl, rfl⟩ ndX3_hasSection ⟨Nat.le_of_ble_eq_true rfl, Nat.le_of_ble_eq_true rfl⟩ hK hP 0 rfl rfl rfl hl rfl (Nat.le_of_ble_eq_true rfl) dX3_carry_54 ⟨Nat.zero_le _, Nat.zero_le _⟩ ?_
    refine lv_if_eq (tgt := 71) hx hb dX3_carry_57 (by decide) (fun c_57 => ?_) (fun c_57 => ?_)
    · have c_57 : (kX3_hasSection f (kX3_from f x1 x2)) = 0 := c_57
      refine lv_aload_n hx hb dX3_carry_71 rfl (lv_at hl 2 rfl) ?_
      refine lv_iload hx hb dX3_carry_72 (lv_at hl 0 rfl) ?_
      refine k_rd (As := [.int (kX3_rightOf f x1)]) (rest := []) (bytes := cX3_hasSection) (C := RX3) S (okX3_hasSection l D cI cZ cQ h a X f (kX3_rightOf f x1)) gX3_carry_X3_hasSection rfl ⟨rfl, rfl⟩ ndX3_hasSection ⟨Nat.le_of_ble_eq_true rfl, Nat.le_of_ble_eq_true rfl⟩ hK hP 0 rfl rfl rfl hl rfl (Nat.le_of_ble_eq_true rfl) dX3_carry_74 ⟨Nat.zero_le _, Nat.zero_le _⟩ ?_
      refine lv_if_ne (tgt := 82) hx hb dX3_carry_77 (by decide) (fun c_77 => ?_) (fun c_77 => ?_)
      · have c_77 : ¬ ((kX3_hasSection f (kX3_rightOf f x1)) = 0) := c_77
        have hv2 : vp_in _ 6 := hs_in hok c_77
        refine lv_aload_n hx hb dX3_carry_82 rfl (lv_at hl 2 rfl) ?_
        refine va_get (v := .ref (a 14)) (C := RX3) (T := TX3) (N := 15) (ci := 3) hx hb hts hinX3 hown hK hP 0 rfl rfl 14 (by decide) (hts (.fieldLink RX3 45 "AxleKeeper$Line" "axles" "[I") (by decide +kernel)) (fun _ h9 => h9) rfl dX3_carry_83 ?_
        refine lv_iload hx hb dX3_carry_86 (lv_at hl 0 rfl) ?_
        refine lv_dup2_11 hx hb dX3_carry_88 rfl rfl ?_
        refine va_iald hx hb hK hP 12 0 rfl rfl (n := 6) (by assumption) dX3_carry_89 ?_
        refine lv_iload_n hx hb dX3_carry_90 rfl (lv_at hl 5 rfl) ?_
        refine lv_iadd hx hb dX3_carry_91 ?_
        refine st_L14 (x := ((f 14 (ix (kX3_rightOf f x1))) + x3)) hx hb hK hP hD hS (by assumption) dX3_carry_92 (fun H locs hP hD hS => ?_)
        refine lv_aload_n hx hb dX3_carry_93 rfl (lv_at hl 2 rfl) ?_
        refine va_get (v := .ref (a 14)) (C := RX3) (T := TX3) (N := 15) (ci := 3) hx hb hts hinX3 hown hK hP 0 rfl rfl 14 (by decide) (hts (.fieldLink RX3 45 "AxleKeeper$Line" "axles" "[I") (by decide +kernel)) (fun _ h9 => h9) rfl dX3_carry_94 ?_
        refine lv_iload hx hb dX3_carry_97 (lv_at hl 0 rfl) ?_
        refine va_iald hx hb hK hP 12 0 rfl rfl (n := 6) (by assumption) dX3_carry_99 ?_
        have hρ : kX3_carry f x1 x2 x3 x4 = (((up2 f 14 (ix (kX3_rightOf f x1)) ((f 14 (ix (kX3_rightOf f x1))) + x3)) 14 (ix (kX3_rightOf f x1))), (up2 f 14 (ix (kX3_rightOf f x1)) ((f 14 (ix (kX3_rightOf f x1))) + x3))) := (if_pos c_9).trans ((if_pos c_29).trans ((if_pos c_57).trans ((if_neg c_77))))
        exact e_wi hx hb hr hlk hK hP hD hS dX3_carry_100 (congrArg Prod.fst hρ).symm (congrArg (fun z => (LW cI h a z.2 ++ X)) hρ).symm
      have c_77 : (kX3_hasSection f (kX3_rightOf f x1)) = 0 := c_77
      refine lv_iconst (v := 0) hx hb dX3_carry_80 (by decide) ?_
      have hρ : kX3_carry f x1 x2 x3 x4 = (0, f) := (if_pos c_9).trans ((if_pos c_29).trans ((if_pos c_57).trans ((if_pos c_77))))
      exact e_wi hx hb hr hlk hK hP hD hS dX3_carry_81 (congrArg Prod.fst hρ).symm (congrArg (fun z => (LW cI h a z.2 ++ X)) hρ).symm
    have c_57 : ¬ ((kX3_hasSection f (kX3_from f x1 x2)) = 0) := c_57
    have hv1 : vp_in _ 6 := hs_in hok c_57
    refine lv_aload_n hx hb dX3_carry_60 rfl (lv_at hl 2 rfl) ?_
    refine va_get (v := .ref (a 14)) (C := RX3) (T := TX3) (N := 15) (ci := 3) hx hb hts hinX3 hown hK hP 0 rfl rfl 14 (by decide) (hts (.fieldLink RX3 45 "AxleKeeper$Line" "axles" "[I") (by decide +kernel)) (fun _ h9 => h9) rfl dX3_carry_61 ?_
    refine lv_iload hx hb dX3_carry_64 (lv_at hl 1 rfl) ?_
    refine lv_dup2_11 hx hb dX3_carry_66 rfl rfl ?_
    refine va_iald hx hb hK hP 12 0 rfl rfl (n := 6) (by assumption) dX3_carry_67 ?_
    refine lv_iload_n hx hb dX3_carry_68 rfl (lv_at hl 5 rfl) ?_
    refine lv_isub hx hb dX3_carry_69 ?_
    refine st_L14 (x := ((f 14 (ix (kX3_from f x1 x2))) - x3)) hx hb hK hP hD hS (by assumption) dX3_carry_70 (fun H locs hP hD hS => ?_)
    refine lv_aload_n hx hb dX3_carry_71 rfl (lv_at hl 2 rfl) ?_
    refine lv_iload hx hb dX3_carry_72 (lv_at hl 0 rfl) ?_
    refine k_rd (As := [.int (kX3_rightOf f x1)]) (rest := []) (bytes := cX3_hasSection) (C := RX3) S (okX3_hasSection l D cI cZ cQ h a X (up2 f 14 (ix (kX3_from f x1 x2)) ((f 14 (ix (kX3_from f x1 x2))) - x3)) (kX3_rightOf f x1)) gX3_carry_X3_hasSection rfl ⟨rfl, rfl⟩ ndX3_hasSection ⟨Nat.le_of_ble_eq_true rfl, Nat.le_of_ble_eq_true rfl⟩ hK hP 0 rfl rfl rfl hl rfl (Nat.le_of_ble_eq_true rfl) dX3_carry_74 ⟨Nat.zero_le _, Nat.zero_le _⟩ ?_
    refine lv_if_ne (tgt := 82) hx hb dX3_carry_77 (by decide) (fun c_77 => ?_) (fun c_77 => ?_)
    · have c_77 : ¬ ((kX3_hasSection (up2 f 14 (ix (kX3_from f x1 x2)) ((f 14 (ix (kX3_from f x1 x2))) - x3)) (kX3_rightOf f x1)) = 0) := c_77
      have hv2 : vp_in _ 6 := hs_in hok c_77
      refine lv_aload_n hx hb dX3_carry_82 rfl (lv_at hl 2 rfl) ?_
      refine va_get (v := .ref (a 14)) (C := RX3) (T := TX3) (N := 15) (ci := 3) hx hb hts hinX3 hown hK hP 0 rfl rfl 14 (by decide) (hts (.fieldLink RX3 45 "AxleKeeper$Line" "axles" "[I") (by decide +kernel)) (fun _ h9 => h9) rfl dX3_carry_83 ?_
      refine lv_iload hx hb dX3_carry_86 (lv_at hl 0 rfl) ?_
      refine lv_dup2_11 hx hb dX3_carry_88 rfl rfl ?_
      refine va_iald hx hb hK hP 12 0 rfl rfl (n := 6) (by assumption) dX3_carry_89 ?_
      refine lv_iload_n hx hb dX3_carry_90 rfl (lv_at hl 5 rfl) ?_
      refine lv_iadd hx hb dX3_carry_91 ?_
      refine st_L14 (x := (((up2 f 14 (ix (kX3_from f x1 x2)) ((f 14 (ix (kX3_from f x1 x2))) - x3)) 14 (ix (kX3_rightOf f x1))) + x3)) hx hb hK hP hD hS (by assumption) dX3_carry_92 (fun H locs hP hD hS => ?_)
      refine lv_aload_n hx hb dX3_carry_93 rfl (lv_at hl 2 rfl) ?_
      refine va_get (v := .ref (a 14)) (C := RX3) (T := TX3) (N := 15) (ci := 3) hx hb hts hinX3 hown hK hP 0 rfl rfl 14 (by decide) (hts (.fieldLink RX3 45 "AxleKeeper$Line" "axles" "[I") (by decide +kernel)) (fun _ h9 => h9) rfl dX3_carry_94 ?_
      refine lv_iload hx hb dX3_carry_97 (lv_at hl 0 rfl) ?_
      refine va_iald hx hb hK hP 12 0 rfl rfl (n := 6) (by assumption) dX3_carry_99 ?_
      have hρ : kX3_carry f x1 x2 x3 x4 = (((up2 (up2 f 14 (ix (kX3_from f x1 x2)) ((f 14 (ix (kX3_from f x1 x2))) - x3)) 14 (ix (kX3_rightOf f x1)) (((up2 f 14 (ix (kX3_from f x1 x2)) ((f 14 (ix (kX3_from f x1 x2))) - x3)) 14 (ix (kX3_rightOf f x1))) + x3)) 14 (ix (kX3_rightOf f x1))), (up2 (up2 f 14 (ix (kX3_from f x1 x2)) ((f 14 (ix (kX3_from f x1 x2))) - x3)) 14 (ix (kX3_rightOf f x1)) (((up2 f 14 (ix (kX3_from f x1 x2)) ((f 14 (ix (kX3_from f x1 x2))) - x3)) 14 (ix (kX3_rightOf f x1))) + x3))) := (if_pos c_9).trans ((if_pos c_29).trans ((if_neg c_57).trans ((if_neg c_77))))
      exact e_wi hx hb hr hlk hK hP hD hS dX3_carry_100 (congrArg Prod.fst hρ).symm (congrArg (fun z => (LW cI h a z.2 ++ X)) hρ).symm
    have c_77 : (kX3_hasSection (up2 f 14 (ix (kX3_from f x1 x2)) ((f 14 (ix (kX3_from f x1 x2))) - x3)) (kX3_rightOf f x1)) = 0 := c_77
    refine lv_iconst (v := 0) hx hb dX3_carry_80 (by decide) ?_
    have hρ : kX3_carry f x1 x2 x3 x4 = (0, (up2 f 14 (ix (kX3_from f x1 x2)) ((f 14 (ix (kX3_from f x1 x2))) - x3))) := (if_pos c_9).trans ((if_pos c_29).trans ((if_neg c_57).trans ((if_pos c_77))))
    exact e_wi hx hb hr hlk hK hP hD hS dX3_carry_81 (congrArg Prod.fst hρ).symm (congrArg (fun z => (LW cI h a z.2 ++ X)) hρ).symm
  have c_29 : ¬ (x4 = 0) := c_29
  refine lv_aload_n hx hb dX3_carry_32 rfl (lv_at hl 2 rfl) ?_
  refine va_get (v := .ref (a 5)) (C := RX3) (T := TX3) (N := 15) (ci := 3) hx hb hts hinX3 hown hK hP 0 rfl rfl 5 (by decide) (hts (.fieldLink RX3 18 "AxleKeeper$Line" "count" "[I") (by decide +kernel)) (fun _ h9 => h9) rfl dX3_carry_33 ?_
  refine lv_iload_n hx hb dX3_carry_36 rfl (lv_at hl 3 rfl) ?_
  refine lv_dup2_11 hx hb dX3_carry_37 rfl rfl ?_
  refine va_iald hx hb hK hP 3 0 rfl rfl (n := 7) (by assumption) dX3_carry_38 ?_
  refine lv_iload_n hx hb dX3_carry_39 rfl (lv_at hl 4 rfl) ?_
  refine lv_if_ne (tgt := 47) hx hb dX3_carry_40 (by decide) (fun c_40 => absurd c_9 c_40) (fun c_40 => ?_)
  refine lv_iload_n hx hb dX3_carry_43 rfl (lv_at hl 5 rfl) ?_
  refine lv_goto (tgt := 49) hx hb dX3_carry_44 (by decide) ?_
  refine lv_iadd hx hb dX3_carry_49 ?_
  refine st_L5 (x := ((f 5 (ix x1)) + x3)) hx hb hK hP hD hS (by assumption) dX3_carry_50 (fun H locs hP hD hS => ?_)
  refine lv_aload_n hx hb dX3_carry_51 rfl (lv_at hl 2 rfl) ?_
  refine lv_iload hx hb dX3_carry_52 (lv_at hl 1 rfl) ?_
  refine k_rd (As := [.int (kX3_from f x1 x2)]) (rest := []) (bytes := cX3_hasSection) (C := RX3) S (okX3_hasSection l D cI cZ cQ h a X (up2 f 5 (ix x1) ((f 5 (ix x1)) + x3)) (kX3_from f x1 x2)) gX3_carry_X3_hasSection rfl ⟨rfl, rfl⟩ ndX3_hasSection ⟨Nat.le_of_ble_eq_true rfl, Nat.le_of_ble_eq_true rfl⟩ hK hP 0 rfl rfl rfl hl rfl (Nat.le_of_ble_eq_true rfl) dX3_carry_54 ⟨Nat.zero_le _, Nat.zero_le _⟩ ?_
  refine lv_if_eq (tgt := 71) hx hb dX3_carry_57 (by decide) (fun c_57 => ?_) (fun c_57 => ?_)
  · have c_57 : (kX3_hasSection (up2 f 5 (ix x1) ((f 5 (ix x1)) + x3)) (kX3_from f x1 x2)) = 0 := c_57
    refine lv_aload_n hx hb dX3_carry_71 rfl (lv_at hl 2 rfl) ?_
    refine lv_iload hx hb dX3_carry_72 (lv_at hl 0 rfl) ?_
    refine k_rd (As := [.int (kX3_rightOf f x1)]) (rest := []) (bytes := cX3_hasSection) (C := RX3) S (okX3_hasSection l D cI cZ cQ h a X (up2 f 5 (ix x1) ((f 5 (ix x1)) + x3)) (kX3_rightOf f x1)) gX3_carry_X3_hasSection rfl ⟨rfl, rfl⟩ ndX3_hasSection ⟨Nat.le_of_ble_eq_true rfl, Nat.le_of_ble_eq_true rfl⟩ hK hP 0 rfl rfl rfl hl rfl (Nat.le_of_ble_eq_true rfl) dX3_carry_74 ⟨Nat.zero_le _, Nat.zero_le _⟩ ?_
    refine lv_if_ne (tgt := 82) hx hb dX3_carry_77 (by decide) (fun c_77 => ?_) (fun c_77 => ?_)
    · have c_77 : ¬ ((kX3_hasSection (up2 f 5 (ix x1) ((f 5 (ix x1)) + x3)) (kX3_rightOf f x1)) = 0) := c_77
      have hv2 : vp_in _ 6 := hs_in hok c_77
      refine lv_aload_n hx hb dX3_carry_82 rfl (lv_at hl 2 rfl) ?_
      refine va_get (v := .ref (a 14)) (C := RX3) (T := TX3) (N := 15) (ci := 3) hx hb hts hinX3 hown hK hP 0 rfl rfl 14 (by decide) (hts (.fieldLink RX3 45 "AxleKeeper$Line" "axles" "[I") (by decide +kernel)) (fun _ h9 => h9) rfl dX3_carry_83 ?_
      refine lv_iload hx hb dX3_carry_86 (lv_at hl 0 rfl) ?_
      refine lv_dup2_11 hx hb dX3_carry_88 rfl rfl ?_
      refine va_iald hx hb hK hP 12 0 rfl rfl (n := 6) (by assumption) dX3_carry_89 ?_
      refine lv_iload_n hx hb dX3_carry_90 rfl (lv_at hl 5 rfl) ?_
      refine lv_iadd hx hb dX3_carry_91 ?_
      refine st_L14 (x := ((f 14 (ix (kX3_rightOf f x1))) + x3)) hx hb hK hP hD hS (by assumption) dX3_carry_92 (fun H locs hP hD hS => ?_)
      refine lv_aload_n hx hb dX3_carry_93 rfl (lv_at hl 2 rfl) ?_
      refine va_get (v := .ref (a 14)) (C := RX3) (T := TX3) (N := 15) (ci := 3) hx hb hts hinX3 hown hK hP 0 rfl rfl 14 (by decide) (hts (.fieldLink RX3 45 "AxleKeeper$Line" "axles" "[I") (by decide +kernel)) (fun _ h9 => h9) rfl dX3_carry_94 ?_
      refine lv_iload hx hb dX3_carry_97 (lv_at hl 0 rfl) ?_
      refine va_iald hx hb hK hP 12 0 rfl rfl (n := 6) (by assumption) dX3_carry_99 ?_
      have hρ : kX3_carry f x1 x2 x3 x4 = (((up2 (up2 f 5 (ix x1) ((f 5 (ix x1)) + x3)) 14 (ix (kX3_rightOf f x1)) ((f 14 (ix (kX3_rightOf f x1))) + x3)) 14 (ix (kX3_rightOf f x1))), (up2 (up2 f 5 (ix x1) ((f 5 (ix x1)) + x3)) 14 (ix (kX3_rightOf f x1)) ((f 14 (ix (kX3_rightOf f x1))) + x3))) := (if_pos c_9).trans ((if_neg c_29).trans ((if_pos c_57).trans ((if_neg c_77))))
      exact e_wi hx hb hr hlk hK hP hD hS dX3_carry_100 (congrArg Prod.fst hρ).symm (congrArg (fun z => (LW cI h a z.2 ++ X)) hρ).symm
    have c_77 : (kX3_hasSection (up2 f 5 (ix x1) ((f 5 (ix x1)) + x3)) (kX3_rightOf f x1)) = 0 := c_77
    refine lv_iconst (v := 0) hx hb dX3_carry_80 (by decide) ?_
    have hρ : kX3_carry f x1 x2 x3 x4 = (0, (up2 f 5 (ix x1) ((f 5 (ix x1)) + x3))) := (if_pos c_9).trans ((if_neg c_29).trans ((if_pos c_57).trans ((if_pos c_77))))
    exact e_wi hx hb hr hlk hK hP hD hS dX3_carry_81 (congrArg Prod.fst hρ).symm (congrArg (fun z => (LW cI h a z.2 ++ X)) hρ).symm
  have c_57 : ¬ ((kX3_hasSection (up2 f 5 (ix x1) ((f 5 (ix x1)) + x3)) (kX3_from f x1 x2)) = 0) := c_57
  have hv1 : vp_in _ 6 := hs_in hok c_57
  refine lv_aload_n hx hb dX3_carry_60 rfl (lv_at hl 2 rfl) ?_
  refine va_get (v := .ref (a 14)) (C := RX3) (T := TX3) (N := 15) (ci := 3) hx hb hts hinX3 hown hK hP 0 rfl rfl 14 (by decide) (hts (.fieldLink RX3 45 "AxleKeeper$Line" "axles" "[I") (by decide +kernel)) (fun _ h9 => h9) rfl dX3_carry_61 ?_
  refine lv_iload hx hb dX3_carry_64 (lv_at hl 1 rfl) ?_
  refine lv_dup2_11 hx hb dX3_carry_66 rfl rfl ?_
  refine va_iald hx hb hK hP 12 0 rfl rfl (n := 6) (by assumption) dX3_carry_67 ?_
  refine lv_iload_n hx hb dX3_carry_68 rfl (lv_at hl 5 rfl) ?_
  refine lv_isub hx hb dX3_carry_69 ?_
  refine st_L14 (x := ((f 14 (ix (kX3_from f x1 x2))) - x3)) hx hb hK hP hD hS (by assumption) dX3_carry_70 (fun H locs hP hD hS => ?_)
  refine lv_aload_n hx hb dX3_carry_71 rfl (lv_at hl 2 rfl) ?_
  refine lv_iload hx hb dX3_carry_72 (lv_at hl 0 rfl) ?_
  refine k_rd (As := [.int (kX3_rightOf f x1)]) (rest := []) (bytes := cX3_hasSection) (C := RX3) S (okX3_hasSection l D cI cZ cQ h a X (up2 (up2 f 5 (ix x1) ((f 5 (ix x1)) + x3)) 14 (ix (kX3_from f x1 x2)) ((f 14 (ix (kX3_from f x1 x2))) - x3)) (kX3_rightOf f x1)) gX3_carry_X3_hasSection rfl ⟨rfl, rfl⟩ ndX3_hasSection ⟨Nat.le_of_ble_eq_true rfl, Nat.le_of_ble_eq_true rfl⟩ hK hP 0 rfl rfl rfl hl rfl (Nat.le_of_ble_eq_true rfl) dX3_carry_74 ⟨Nat.zero_le _, Nat.zero_le _⟩ ?_
  refine lv_if_ne (tgt := 82) hx hb dX3_carry_77 (by decide) (fun c_77 => ?_) (fun c_77 => ?_)
  · have c_77 : ¬ ((kX3_hasSection (up2 (up2 f 5 (ix x1) ((f 5 (ix x1)) + x3)) 14 (ix (kX3_from f x1 x2)) ((f 14 (ix (kX3_from f x1 x2))) - x3)) (kX3_rightOf f x1)) = 0) := c_77
    have hv2 : vp_in _ 6 := hs_in hok c_77
    refine lv_aload_n hx hb dX3_carry_82 rfl (lv_at hl 2 rfl) ?_
    refine va_get (v := .ref (a 14)) (C := RX3) (T := TX3) (N := 15) (ci := 3) hx hb hts hinX3 hown hK hP 0 rfl rfl 14 (by decide) (hts (.fieldLink RX3 45 "AxleKeeper$Line" "axles" "[I") (by decide +kernel)) (fun _ h9 => h9) rfl dX3_carry_83 ?_
    refine lv_iload hx hb dX3_carry_86 (lv_at hl 0 rfl) ?_
    refine lv_dup2_11 hx hb dX3_carry_88 rfl rfl ?_
    refine va_iald hx hb hK hP 12 0 rfl rfl (n := 6) (by assumption) dX3_carry_89 ?_
    refine lv_iload_n hx hb dX3_carry_90 rfl (lv_at hl 5 rfl) ?_
    refine lv_iadd hx hb dX3_carry_91 ?_
    refine st_L14 (x := (((up2 (up2 f 5 (ix x1) ((f 5 (ix x1)) + x3)) 14 (ix (kX3_from f x1 x2)) ((f 14 (ix (kX3_from f x1 x2))) - x3)) 14 (ix (kX3_rightOf f x1))) + x3)) hx hb hK hP hD hS (by assumption) dX3_carry_92 (fun H locs hP hD hS => ?_)
    refine lv_aload_n hx hb dX3_carry_93 rfl (lv_at hl 2 rfl) ?_
    refine va_get (v := .ref (a 14)) (C := RX3) (T := TX3) (N := 15) (ci := 3) hx hb hts hinX3 hown hK hP 0 rfl rfl 14 (by decide) (hts (.fieldLink RX3 45 "AxleKeeper$Line" "axles" "[I") (by decide +kernel)) (fun _ h9 => h9) rfl dX3_carry_94 ?_
    refine lv_iload hx hb dX3_carry_97 (lv_at hl 0 rfl) ?_
    refine va_iald hx hb hK hP 12 0 rfl rfl (n := 6) (by assumption) dX3_carry_99 ?_
    have hρ : kX3_carry f x1 x2 x3 x4 = (((up2 (up2 (up2 f 5 (ix x1) ((f 5 (ix x1)) + x3)) 14 (ix (kX3_from f x1 x2)) ((f 14 (ix (kX3_from f x1 x2))) - x3)) 14 (ix (kX3_rightOf f x1)) (((up2 (up2 f 5 (ix x1) ((f 5 (ix x1)) + x3)) 14 (ix (kX3_from f x1 x2)) ((f 14 (ix (kX3_from f x1 x2))) - x3)) 14 (ix (kX3_rightOf f x1))) + x3)) 14 (ix (kX3_rightOf f x1))), (up2 (up2 (up2 f 5 (ix x1) ((f 5 (ix x1)) + x3)) 14 (ix (kX3_from f x1 x2)) ((f 14 (ix (kX3_from f x1 x2))) - x3)) 14 (ix (kX3_rightOf f x1)) (((up2 (up2 f 5 (ix x1) ((f 5 (ix x1)) + x3)) 14 (ix (kX3_from f x1 x2)) ((f 14 (ix (kX3_from f x1 x2))) - x3)) 14 (ix (kX3_rightOf f x1))) + x3))) := (if_pos c_9).trans ((if_neg c_29).trans ((if_neg c_57).trans ((if_neg c_77))))
    exact e_wi hx hb hr hlk hK hP hD hS dX3_carry_100 (congrArg Prod.fst hρ).symm (congrArg (fun z => (LW cI h a z.2 ++ X)) hρ).symm
  have c_77 : (kX3_hasSection (up2 (up2 f 5 (ix x1) ((f 5 (ix x1)) + x3)) 14 (ix (kX3_from f x1 x2)) ((f 14 (ix (kX3_from f x1 x2))) - x3)) (kX3_rightOf f x1)) = 0 := c_77
  refine lv_iconst (v := 0) hx hb dX3_carry_80 (by decide) ?_
  have hρ : kX3_carry f x1 x2 x3 x4 = (0, (up2 (up2 f 5 (ix x1) ((f 5 (ix x1)) + x3)) 14 (ix (kX3_from f x1 x2)) ((f 14 (ix (kX3_from f x1 x2))) - x3))) := (if_pos c_9).trans ((if_neg c_29).trans ((if_neg c_57).trans ((if_pos c_77))))
  exact e_wi hx hb hr hlk hK hP hD hS dX3_carry_81 (congrArg Prod.fst hρ).symm (congrArg (fun z => (LW cI h a z.2 ++ X)) hρ).symm
theorem ndX3_mend : yX3_mend.cls = RX3 ∧ yX3_mend.cls ≠ "java/lang/invoke/MethodHandle" ∧ yX3_mend.cls ≠ "java/lang/invoke/VarHandle" ∧ (parseMethodDescriptor yX3_mend.desc).map (fun d => d.parameters.length) = some 1 := by decide +kernel
set_option maxHeartbeats 4000000 in
set_option maxRecDepth 100000 in
theorem okX3_mend (l : Launch) (D : va_G) (cI cZ cQ : ClassId) (h : Nat) (a : Nat → Nat) (X : va_W) (f : Nat → Nat → Int32) (x1 : Int32) (sz : Nat) (h1 : vp_in x1 7) : Met l yX3_mend wsX3_mend ({ frames := 0, cells := 0, slots := 0, locals := 0 }) (PW [.ref h, .int x1] sz D (TY cI cZ cQ) (LW cI h a f ++ X)) (QV D (TY cI cZ cQ) (LW cI h a (kX3_mend f x1) ++ X) (va_A (LW cI h a f ++ X) sz)) 0 0 (va_A (LW cI h a f ++ X) sz) := by
  refine m_wr (cc := cX3_mend) (maxL := 2) (ret := none) (by decide) rfl (Nat.le_of_ble_eq_true rfl) (lv0 := [(0, .ref h), (1, .int x1)]) rfl ?_
  intro p e s m below meth c ls A hAe S hr hlk hP hK hD hS hA hl
  rw [← hAe]
  have S : CallFix p m c cX3_mend 2 s ([.ref h, .int x1] : List Value).toArray wsX3_mend RX3 := S
  have hx := S.1
  have hb := S.2.1
  have hown : s.vm.findClass RX3 = some m.cls := S.2.2.2.1
  have hts := S.2.2.2.2
  have hinX3 : ∀ w ∈ wsX30, w ∈ wsX3_mend := by decide +kernel
  refine lv_aload_n hx hb dX3_mend_0 rfl (lv_at hl 0 rfl) ?_
  refine va_get (v := .ref (a 6)) (C := RX3) (T := TX3) (N := 15) (ci := 3) hx hb hts hinX3 hown hK hP 0 rfl rfl 6 (by decide) (hts (.fieldLink RX3 21 "AxleKeeper$Line" "faulty" "[I") (by decide +kernel)) (fun _ h9 => h9) rfl dX3_mend_1 ?_
  refine lv_iload_n hx hb dX3_mend_4 rfl (lv_at hl 1 rfl) ?_
  refine lv_iconst (v := 0) hx hb dX3_mend_5 (by decide) ?_
  refine st_L6 (x := 0) hx hb hK hP hD hS (by assumption) dX3_mend_6 (fun H locs hP hD hS => ?_)
  refine lv_aload_n hx hb dX3_mend_7 rfl (lv_at hl 0 rfl) ?_
  refine va_get (v := .ref (a 3)) (C := RX3) (T := TX3) (N := 15) (ci := 3) hx hb hts hinX3 hown hK hP 0 rfl rfl 3 (by decide) (hts (.fieldLink RX3 11 "AxleKeeper$Line" "state" "[I") (by decide +kernel)) (fun _ h9 => h9) rfl dX3_mend_8 ?_
  refine lv_iload_n hx hb dX3_mend_11 rfl (lv_at hl 1 rfl) ?_
  refine lv_iconst (v := 0) hx hb dX3_mend_12 (by decide) ?_
  refine st_L3 (x := 0) hx hb hK hP hD hS (by assumption) dX3_mend_13 (fun H locs hP hD hS => ?_)
  refine lv_aload_n hx hb dX3_mend_14 rfl (lv_at hl 0 rfl) ?_
  refine va_get (v := .ref (a 4)) (C := RX3) (T := TX3) (N := 15) (ci := 3) hx hb hts hinX3 hown hK hP 0 rfl rfl 4 (by decide) (hts (.fieldLink RX3 15 "AxleKeeper$Line" "wheel" "[I") (by decide +kernel)) (fun _ h9 => h9) rfl dX3_mend_15 ?_
  refine lv_iload_n hx hb dX3_mend_18 rfl (lv_at hl 1 rfl) ?_
  refine lv_iconst (v := 0) hx hb dX3_mend_19 (by decide) ?_
  refine st_L4 (x := 0) hx hb hK hP hD hS (by assumption) dX3_mend_20 (fun H locs hP hD hS => ?_)
  have hρ : kX3_mend f x1 = (up2 (up2 (up2 f 6 (ix x1) 0) 3 (ix x1) 0) 4 (ix x1) 0) := rfl
  exact e_wv hx hb hr hlk hK hP hD hS dX3_mend_21 (congrArg (fun z => (LW cI h a z ++ X)) hρ).symm
theorem ndX3_addToSum : yX3_addToSum.cls = RX3 ∧ yX3_addToSum.cls ≠ "java/lang/invoke/MethodHandle" ∧ yX3_addToSum.cls ≠ "java/lang/invoke/VarHandle" ∧ (parseMethodDescriptor yX3_addToSum.desc).map (fun d => d.parameters.length) = some 2 := by decide +kernel
set_option maxHeartbeats 4000000 in
set_option maxRecDepth 100000 in
theorem okX3_addToSum (l : Launch) (D : va_G) (cI cZ cQ : ClassId) (h : Nat) (a : Nat → Nat) (X : va_W) (f : Nat → Nat → Int32) (x1 x2 : Int32) (sz : Nat) (hok : okL f) : Met l yX3_addToSum wsX3_addToSum ({ frames := 1, cells := 0, slots := 0, locals := 21 }) (PW [.ref h, .int x1, .int x2] sz D (TY cI cZ cQ) (LW cI h a f ++ X)) (QV D (TY cI cZ cQ) (LW cI h a (kX3_addToSum f x1 x2) ++ X) (va_A (LW cI h a f ++ X) sz)) 0 0 (va_A (LW cI h a f ++ X) sz) := by
  refine m_wr (cc := cX3_addToSum) (maxL := 3) (ret := none) (by decide) rfl (Nat.le_of_ble_eq_true rfl) (lv0 := [(0, .ref h), (1, .int x1), (2, .int x2)]) rfl ?_
  intro p e s m below meth c ls A hAe S hr hlk hP hK hD hS hA hl
  rw [← hAe]
  have S : CallFix p m c cX3_addToSum 3 s ([.ref h, .int x1, .int x2] : List Value).toArray wsX3_addToSum RX3 := S
  have hx := S.1
  have hb := S.2.1
  have hown : s.vm.findClass RX3 = some m.cls := S.2.2.2.1
  have hts := S.2.2.2.2
  have hinX3 : ∀ w ∈ wsX30, w ∈ wsX3_addToSum := by decide +kernel
  refine lv_aload_n hx hb dX3_addToSum_0 rfl (lv_at hl 0 rfl) ?_
  refine lv_iload_n hx hb dX3_addToSum_1 rfl (lv_at hl 1 rfl) ?_
  refine k_rd (As := [.int x1]) (rest := []) (bytes := cX3_hasSection) (C := RX3) S (okX3_hasSection l D cI cZ cQ h a X f x1) gX3_addToSum_X3_hasSection rfl ⟨rfl, rfl⟩ ndX3_hasSection ⟨Nat.le_of_ble_eq_true rfl, Nat.le_of_ble_eq_true rfl⟩ hK hP 0 rfl rfl rfl hl rfl (Nat.le_of_ble_eq_true rfl) dX3_addToSum_2 ⟨Nat.zero_le _, Nat.zero_le _⟩ ?_
  refine lv_if_eq (tgt := 18) hx hb dX3_addToSum_5 (by decide) (fun c_5 => ?_) (fun c_5 => ?_)
  · have c_5 : (kX3_hasSection f x1) = 0 := c_5
    have hρ : kX3_addToSum f x1 x2 = f := (if_pos c_5)
    exact e_wv hx hb hr hlk hK hP hD hS dX3_addToSum_18 (congrArg (fun z => (LW cI h a z ++ X)) hρ).symm
  have c_5 : ¬ ((kX3_hasSection f x1) = 0) := c_5
  have hv1 : vp_in _ 6 := hs_in hok c_5
  refine lv_aload_n hx hb dX3_addToSum_8 rfl (lv_at hl 0 rfl) ?_
  refine va_get (v := .ref (a 11)) (C := RX3) (T := TX3) (N := 15) (ci := 3) hx hb hts hinX3 hown hK hP 0 rfl rfl 11 (by decide) (hts (.fieldLink RX3 36 "AxleKeeper$Line" "sum" "[I") (by decide +kernel)) (fun _ h9 => h9) rfl dX3_addToSum_9 ?_
  refine lv_iload_n hx hb dX3_addToSum_12 rfl (lv_at hl 1 rfl) ?_
  refine lv_dup2_11 hx hb dX3_addToSum_13 rfl rfl ?_
  refine va_iald hx hb hK hP 9 0 rfl rfl (n := 6) (by assumption) dX3_addToSum_14 ?_
  refine lv_iload_n hx hb dX3_addToSum_15 rfl (lv_at hl 2 rfl) ?_
  refine lv_iadd hx hb dX3_addToSum_16 ?_
  refine st_L11 (x := ((f 11 (ix x1)) + x2)) hx hb hK hP hD hS (by assumption) dX3_addToSum_17 (fun H locs hP hD hS => ?_)
  have hρ : kX3_addToSum f x1 x2 = (up2 f 11 (ix x1) ((f 11 (ix x1)) + x2)) := (if_neg c_5)
  exact e_wv hx hb hr hlk hK hP hD hS dX3_addToSum_18 (congrArg (fun z => (LW cI h a z ++ X)) hρ).symm
theorem ndX3_receive : yX3_receive.cls = RX3 ∧ yX3_receive.cls ≠ "java/lang/invoke/MethodHandle" ∧ yX3_receive.cls ≠ "java/lang/invoke/VarHandle" ∧ (parseMethodDescriptor yX3_receive.desc).map (fun d => d.parameters.length) = some 1 := by decide +kernel
set_option maxHeartbeats 4000000 in
set_option maxRecDepth 100000 in
theorem okX3_receive (l : Launch) (D : va_G) (cI cZ cQ : ClassId) (h : Nat) (a : Nat → Nat) (X : va_W) (f : Nat → Nat → Int32) (x1 : Int32) (sz : Nat) (hok : okL f) (h1 : vp_in x1 7) : Met l yX3_receive wsX3_receive ({ frames := 2, cells := 0, slots := 0, locals := 43 }) (PW [.ref h, .int x1] sz D (TY cI cZ cQ) (LW cI h a f ++ X)) (QV D (TY cI cZ cQ) (LW cI h a (kX3_receive f x1) ++ X) (va_A (LW cI h a f ++ X) sz)) 0 0 (va_A (LW cI h a f ++ X) sz) := by
  refine m_wr (cc := cX3_receive) (maxL := 4) (ret := none) (by decide) rfl (Nat.le_of_ble_eq_true rfl) (lv0 := [(0, .ref h), (1, .int x1)]) rfl ?_
  intro p e s m below meth c ls A hAe S hr hlk hP hK hD hS hA hl
  rw [← hAe]
  have S : CallFix p m c cX3_receive 4 s ([.ref h, .int x1] : List Value).toArray wsX3_receive RX3 := S
  have hx := S.1
  have hb := S.2.1
  have hown : s.vm.findClass RX3 = some m.cls := S.2.2.2.1
  have hts := S.2.2.2.2
  have hinX3 : ∀ w ∈ wsX30, w ∈ wsX3_receive := by decide +kernel
  refine lv_aload_n hx hb dX3_receive_0 rfl (lv_at hl 0 rfl) ?_
  refine va_get (v := .ref (a 5)) (C := RX3) (T := TX3) (N := 15) (ci := 3) hx hb hts hinX3 hown hK hP 0 rfl rfl 5 (by decide) (hts (.fieldLink RX3 18 "AxleKeeper$Line" "count" "[I") (by decide +kernel)) (fun _ h9 => h9) rfl dX3_receive_1 ?_
  refine lv_iload_n hx hb dX3_receive_4 rfl (lv_at hl 1 rfl) ?_
  refine va_iald hx hb hK hP 3 0 rfl rfl (n := 7) (by assumption) dX3_receive_5 ?_
  refine lv_bipush (v := 15) hx hb dX3_receive_6 (by decide) ?_
  refine lv_iand hx hb dX3_receive_8 ?_
  refine lv_istore_n (lv' := [(2, .int ((f 5 (ix x1)) &&& 15)), (0, .ref h), (1, .int x1)]) hx hb dX3_receive_9 rfl hl (by decide) rfl (fun ls hl => ?_)
  refine lv_iload_n hx hb dX3_receive_10 rfl (lv_at hl 0 rfl) ?_
  refine lv_aload_n hx hb dX3_receive_11 rfl (lv_at hl 1 rfl) ?_
  refine va_get (v := .ref (a 7)) (C := RX3) (T := TX3) (N := 15) (ci := 3) hx hb hts hinX3 hown hK hP 0 rfl rfl 7 (by decide) (hts (.fieldLink RX3 24 "AxleKeeper$Line" "heard" "[I") (by decide +kernel)) (fun _ h9 => h9) rfl dX3_receive_12 ?_
  refine lv_iload_n hx hb dX3_receive_15 rfl (lv_at hl 2 rfl) ?_
  refine va_iald hx hb hK hP 5 0 rfl rfl (n := 7) (by assumption) dX3_receive_16 ?_
  refine lv_isub hx hb dX3_receive_17 ?_
  refine lv_bipush (v := 15) hx hb dX3_receive_18 (by decide) ?_
  refine lv_iand hx hb dX3_receive_20 ?_
  refine lv_istore_n (lv' := [(3, .int ((((f 5 (ix x1)) &&& 15) - (f 7 (ix x1))) &&& 15)), (2, .int ((f 5 (ix x1)) &&& 15)), (0, .ref h), (1, .int x1)]) hx hb dX3_receive_21 rfl hl (by decide) rfl (fun ls hl => ?_)
  refine lv_iload_n hx hb dX3_receive_22 rfl (lv_at hl 0 rfl) ?_
  refine lv_bipush (v := 8) hx hb dX3_receive_23 (by decide) ?_
  refine lv_icmp_le (tgt := 31) hx hb dX3_receive_25 (by decide) (fun c_25 => ?_) (fun c_25 => ?_)
  · have c_25 : ((((f 5 (ix x1)) &&& 15) - (f 7 (ix x1))) &&& 15) ≤ 8 := c_25
    refine lv_aload_n hx hb dX3_receive_31 rfl (lv_at hl 2 rfl) ?_
    refine lv_aload_n hx hb dX3_receive_32 rfl (lv_at hl 2 rfl) ?_
    refine lv_iload_n hx hb dX3_receive_33 rfl (lv_at hl 3 rfl) ?_
    refine k_rd (As := [.int x1]) (rest := [.ref h]) (bytes := cX3_rightOf) (C := RX3) S (okX3_rightOf l D cI cZ cQ h a X f x1) gX3_receive_X3_rightOf rfl ⟨rfl, rfl⟩ ndX3_rightOf ⟨Nat.le_of_ble_eq_true rfl, Nat.le_of_ble_eq_true rfl⟩ hK hP 0 rfl rfl rfl hl rfl (Nat.le_of_ble_eq_true rfl) dX3_receive_34 ⟨Nat.zero_le _, Nat.zero_le _⟩ ?_
    refine lv_iload_n hx hb dX3_receive_37 rfl (lv_at hl 0 rfl) ?_
    refine k_wv (As := [.int (kX3_rightOf f x1), .int ((((f 5 (ix x1)) &&& 15) - (f 7 (ix x1))) &&& 15)]) (rest := []) (bytes := cX3_addToSum) (C := RX3) S (okX3_addToSum l D cI cZ cQ h a X f (kX3_rightOf f x1) ((((f 5 (ix x1)) &&& 15) - (f 7 (ix x1))) &&& 15) _ hok) gX3_receive_X3_addToSum rfl ⟨rfl, rfl⟩ ndX3_addToSum ⟨Nat.le_of_ble_eq_true rfl, Nat.le_of_ble_eq_true rfl⟩ hK hP hD hS hA 0 rfl rfl rfl hl rfl (Nat.le_of_ble_eq_true rfl) dX3_receive_38 ⟨Nat.zero_le _, Nat.zero_le _⟩ (fun H locs hP hD hS => ?_)
    have hP : va_P D vwCl (LW cI h a (kX3_addToSum f (kX3_rightOf f x1) ((((f 5 (ix x1)) &&& 15) - (f 7 (ix x1))) &&& 15)) ++ X) H := hP
    have hD : va_D A (LW cI h a (kX3_addToSum f (kX3_rightOf f x1) ((((f 5 (ix x1)) &&& 15) - (f 7 (ix x1))) &&& 15)) ++ X) := hD
    refine lv_aload_n hx hb dX3_receive_41 rfl (lv_at hl 2 rfl) ?_
    refine lv_aload_n hx hb dX3_receive_42 rfl (lv_at hl 2 rfl) ?_
    refine lv_iload_n hx hb dX3_receive_43 rfl (lv_at hl 3 rfl) ?_
    refine k_rd (As := [.int x1]) (rest := [.ref h]) (bytes := cX3_leftOf) (C := RX3) S (okX3_leftOf l D cI cZ cQ h a X (kX3_addToSum f (kX3_rightOf f x1) ((((f 5 (ix x1)) &&& 15) - (f 7 (ix x1))) &&& 15)) x1) gX3_receive_X3_leftOf rfl ⟨rfl, rfl⟩ ndX3_leftOf ⟨Nat.le_of_ble_eq_true rfl, Nat.le_of_ble_eq_true rfl⟩ hK hP 0 rfl rfl rfl hl rfl (Nat.le_of_ble_eq_true rfl) dX3_receive_44 ⟨Nat.zero_le _, Nat.zero_le _⟩ ?_
    refine lv_iload_n hx hb dX3_receive_47 rfl (lv_at hl 0 rfl) ?_
    refine lv_ineg hx hb dX3_receive_48 ?_
    refine k_wv (As := [.int (kX3_leftOf (kX3_addToSum f (kX3_rightOf f x1) ((((f 5 (ix x1)) &&& 15) - (f 7 (ix x1))) &&& 15)) x1), .int (-((((f 5 (ix x1)) &&& 15) - (f 7 (ix x1))) &&& 15))]) (rest := []) (bytes := cX3_addToSum) (C := RX3) S (okX3_addToSum l D cI cZ cQ h a X (kX3_addToSum f (kX3_rightOf f x1) ((((f 5 (ix x1)) &&& 15) - (f 7 (ix x1))) &&& 15)) (kX3_leftOf (kX3_addToSum f (kX3_rightOf f x1) ((((f 5 (ix x1)) &&& 15) - (f 7 (ix x1))) &&& 15)) x1) (-((((f 5 (ix x1)) &&& 15) - (f 7 (ix x1))) &&& 15)) _ (ok_add hok)) gX3_receive_X3_addToSum rfl ⟨rfl, rfl⟩ ndX3_addToSum ⟨Nat.le_of_ble_eq_true rfl, Nat.le_of_ble_eq_true rfl⟩ hK hP hD hS hA 0 rfl rfl rfl hl rfl (Nat.le_of_ble_eq_true rfl) dX3_receive_49 ⟨Nat.zero_le _, Nat.zero_le _⟩ (fun H locs hP hD hS => ?_)
    have hP : va_P D vwCl (LW cI h a (kX3_addToSum (kX3_addToSum f (kX3_rightOf f x1) ((((f 5 (ix x1)) &&& 15) - (f 7 (ix x1))) &&& 15)) (kX3_leftOf (kX3_addToSum f (kX3_rightOf f x1) ((((f 5 (ix x1)) &&& 15) - (f 7 (ix x1))) &&& 15)) x1) (-((((f 5 (ix x1)) &&& 15) - (f 7 (ix x1))) &&& 15))) ++ X) H := hP
    have hD : va_D A (LW cI h a (kX3_addToSum (kX3_addToSum f (kX3_rightOf f x1) ((((f 5 (ix x1)) &&& 15) - (f 7 (ix x1))) &&& 15)) (kX3_leftOf (kX3_addToSum f (kX3_rightOf f x1) ((((f 5 (ix x1)) &&& 15) - (f 7 (ix x1))) &&& 15)) x1) (-((((f 5 (ix x1)) &&& 15) - (f 7 (ix x1))) &&& 15))) ++ X) := hD
    refine lv_aload_n hx hb dX3_receive_52 rfl (lv_at hl 2 rfl) ?_
    refine va_get (v := .ref (a 7)) (C := RX3) (T := TX3) (N := 15) (ci := 3) hx hb hts hinX3 hown hK hP 0 rfl rfl 7 (by decide) (hts (.fieldLink RX3 24 "AxleKeeper$Line" "heard" "[I") (by decide +kernel)) (fun _ h9 => h9) rfl dX3_receive_53 ?_
    refine lv_iload_n hx hb dX3_receive_56 rfl (lv_at hl 3 rfl) ?_
    refine lv_iload_n hx hb dX3_receive_57 rfl (lv_at hl 1 rfl) ?_
    refine st_L7 (x := ((f 5 (ix x1)) &&& 15)) hx hb hK hP hD hS (by assumption) dX3_receive_58 (fun H locs hP hD hS => ?_)
    refine lv_aload_n hx hb dX3_receive_59 rfl (lv_at hl 2 rfl) ?_
    refine va_get (v := .ref (a 8)) (C := RX3) (T := TX3) (N := 15) (ci := 3) hx hb hts hinX3 hown hK hP 0 rfl rfl 8 (by decide) (hts (.fieldLink RX3 27 "AxleKeeper$Line" "heardFaulty" "[I") (by decide +kernel)) (fun _ h9 => h9) rfl dX3_receive_60 ?_
    refine lv_iload_n hx hb dX3_receive_63 rfl (lv_at hl 3 rfl) ?_
    refine lv_aload_n hx hb dX3_receive_64 rfl (lv_at hl 2 rfl) ?_
    refine va_get (v := .ref (a 6)) (C := RX3) (T := TX3) (N := 15) (ci := 3) hx hb hts hinX3 hown hK hP 0 rfl rfl 6 (by decide) (hts (.fieldLink RX3 21 "AxleKeeper$Line" "faulty" "[I") (by decide +kernel)) (fun _ h9 => h9) rfl dX3_receive_65 ?_
    refine lv_iload_n hx hb dX3_receive_68 rfl (lv_at hl 3 rfl) ?_
    refine va_iald hx hb hK hP 4 0 rfl rfl (n := 7) (by assumption) dX3_receive_69 ?_
    refine st_L8 (x := ((kX3_addToSum (kX3_addToSum f (kX3_rightOf f x1) ((((f 5 (ix x1)) &&& 15) - (f 7 (ix x1))) &&& 15)) (kX3_leftOf (kX3_addToSum f (kX3_rightOf f x1) ((((f 5 (ix x1)) &&& 15) - (f 7 (ix x1))) &&& 15)) x1) (-((((f 5 (ix x1)) &&& 15) - (f 7 (ix x1))) &&& 15))) 6 (ix x1))) hx hb hK hP hD hS (by assumption) dX3_receive_70 (fun H locs hP hD hS => ?_)
    refine lv_aload_n hx hb dX3_receive_71 rfl (lv_at hl 2 rfl) ?_
    refine va_get (v := .ref (a 9)) (C := RX3) (T := TX3) (N := 15) (ci := 3) hx hb hts hinX3 hown hK hP 0 rfl rfl 9 (by decide) (hts (.fieldLink RX3 30 "AxleKeeper$Line" "age" "[I") (by decide +kernel)) (fun _ h9 => h9) rfl dX3_receive_72 ?_
    refine lv_iload_n hx hb dX3_receive_75 rfl (lv_at hl 3 rfl) ?_
    refine lv_iconst (v := 0) hx hb dX3_receive_76 (by decide) ?_
    refine st_L9 (x := 0) hx hb hK hP hD hS (by assumption) dX3_receive_77 (fun H locs hP hD hS => ?_)
    have hρ : kX3_receive f x1 = (up2 (up2 (up2 (kX3_addToSum (kX3_addToSum f (kX3_rightOf f x1) ((((f 5 (ix x1)) &&& 15) - (f 7 (ix x1))) &&& 15)) (kX3_leftOf (kX3_addToSum f (kX3_rightOf f x1) ((((f 5 (ix x1)) &&& 15) - (f 7 (ix x1))) &&& 15)) x1) (-((((f 5 (ix x1)) &&& 15) - (f 7 (ix x1))) &&& 15))) 7 (ix x1) ((f 5 (ix x1)) &&& 15)) 8 (ix x1) ((kX3_addToSum (kX3_addToSum f (kX3_rightOf f x1) ((((f 5 (ix x1)) &&& 15) - (f 7 (ix x1))) &&& 15)) (kX3_leftOf (kX3_addToSum f (kX3_rightOf f x1) ((((f 5 (ix x1)) &&& 15) - (f 7 (ix x1))) &&& 15)) x1) (-((((f 5 (ix x1)) &&& 15) - (f 7 (ix x1))) &&& 15))) 6 (ix x1))) 9 (ix x1) 0) := (if_pos c_25)
    exact e_wv hx hb hr hlk hK hP hD hS dX3_receive_78 (congrArg (fun z => (LW cI h a z ++ X)) hρ).symm
  have c_25 : ¬ (((((f 5 (ix x1)) &&& 15) - (f 7 (ix x1))) &&& 15) ≤ 8) := c_25
  refine lv_iinc (v := (((((f 5 (ix x1)) &&& 15) - (f 7 (ix x1))) &&& 15) + (-16))) (lv' := [(3, .int (((((f 5 (ix x1)) &&& 15) - (f 7 (ix x1))) &&& 15) + (-16))), (2, .int ((f 5 (ix x1)) &&& 15)), (0, .ref h), (1, .int x1)]) hx hb dX3_receive_28 hl (k := 0) rfl rfl (by decide) rfl (fun ls hl => ?_)
  refine lv_aload_n hx hb dX3_receive_31 rfl (lv_at hl 2 rfl) ?_
  refine lv_aload_n hx hb dX3_receive_32 rfl (lv_at hl 2 rfl) ?_
  refine lv_iload_n hx hb dX3_receive_33 rfl (lv_at hl 3 rfl) ?_
  refine k_rd (As := [.int x1]) (rest := [.ref h]) (bytes := cX3_rightOf) (C := RX3) S (okX3_rightOf l D cI cZ cQ h a X f x1) gX3_receive_X3_rightOf rfl ⟨rfl, rfl⟩ ndX3_rightOf ⟨Nat.le_of_ble_eq_true rfl, Nat.le_of_ble_eq_true rfl⟩ hK hP 0 rfl rfl rfl hl rfl (Nat.le_of_ble_eq_true rfl) dX3_receive_34 ⟨Nat.zero_le _, Nat.zero_le _⟩ ?_
  refine lv_iload_n hx hb dX3_receive_37 rfl (lv_at hl 0 rfl) ?_
  refine k_wv (As := [.int (kX3_rightOf f x1), .int (((((f 5 (ix x1)) &&& 15) - (f 7 (ix x1))) &&& 15) + (-16))]) (rest := []) (bytes := cX3_addToSum) (C := RX3) S (okX3_addToSum l D cI cZ cQ h a X f (kX3_rightOf f x1) (((((f 5 (ix x1)) &&& 15) - (f 7 (ix x1))) &&& 15) + (-16)) _ hok) gX3_receive_X3_addToSum rfl ⟨rfl, rfl⟩ ndX3_addToSum ⟨Nat.le_of_ble_eq_true rfl, Nat.le_of_ble_eq_true rfl⟩ hK hP hD hS hA 0 rfl rfl rfl hl rfl (Nat.le_of_ble_eq_true rfl) dX3_receive_38 ⟨Nat.zero_le _, Nat.zero_le _⟩ (fun H locs hP hD hS => ?_)
  have hP : va_P D vwCl (LW cI h a (kX3_addToSum f (kX3_rightOf f x1) (((((f 5 (ix x1)) &&& 15) - (f 7 (ix x1))) &&& 15) + (-16))) ++ X) H := hP
  have hD : va_D A (LW cI h a (kX3_addToSum f (kX3_rightOf f x1) (((((f 5 (ix x1)) &&& 15) - (f 7 (ix x1))) &&& 15) + (-16))) ++ X) := hD
  refine lv_aload_n hx hb dX3_receive_41 rfl (lv_at hl 2 rfl) ?_
  refine lv_aload_n hx hb dX3_receive_42 rfl (lv_at hl 2 rfl) ?_
  refine lv_iload_n hx hb dX3_receive_43 rfl (lv_at hl 3 rfl) ?_
  refine k_rd (As := [.int x1]) (rest := [.ref h]) (bytes := cX3_leftOf) (C := RX3) S (okX3_leftOf l D cI cZ cQ h a X (kX3_addToSum f (kX3_rightOf f x1) (((((f 5 (ix x1)) &&& 15) - (f 7 (ix x1))) &&& 15) + (-16))) x1) gX3_receive_X3_leftOf rfl ⟨rfl, rfl⟩ ndX3_leftOf ⟨Nat.le_of_ble_eq_true rfl, Nat.le_of_ble_eq_true rfl⟩ hK hP 0 rfl rfl rfl hl rfl (Nat.le_of_ble_eq_true rfl) dX3_receive_44 ⟨Nat.zero_le _, Nat.zero_le _⟩ ?_
  refine lv_iload_n hx hb dX3_receive_47 rfl (lv_at hl 0 rfl) ?_
  refine lv_ineg hx hb dX3_receive_48 ?_
  refine k_wv (As := [.int (kX3_leftOf (kX3_addToSum f (kX3_rightOf f x1) (((((f 5 (ix x1)) &&& 15) - (f 7 (ix x1))) &&& 15) + (-16))) x1), .int (-(((((f 5 (ix x1)) &&& 15) - (f 7 (ix x1))) &&& 15) + (-16)))]) (rest := []) (bytes := cX3_addToSum) (C := RX3) S (okX3_addToSum l D cI cZ cQ h a X (kX3_addToSum f (kX3_rightOf f x1) (((((f 5 (ix x1)) &&& 15) - (f 7 (ix x1))) &&& 15) + (-16))) (kX3_leftOf (kX3_addToSum f (kX3_rightOf f x1) (((((f 5 (ix x1)) &&& 15) - (f 7 (ix x1))) &&& 15) + (-16))) x1) (-(((((f 5 (ix x1)) &&& 15) - (f 7 (ix x1))) &&& 15) + (-16))) _ (ok_add hok)) gX3_receive_X3_addToSum rfl ⟨rfl, rfl⟩ ndX3_addToSum ⟨Nat.le_of_ble_eq_true rfl, Nat.le_of_ble_eq_true rfl⟩ hK hP hD hS hA 0 rfl rfl rfl hl rfl (Nat.le_of_ble_eq_true rfl) dX3_receive_49 ⟨Nat.zero_le _, Nat.zero_le _⟩ (fun H locs hP hD hS => ?_)
  have hP : va_P D vwCl (LW cI h a (kX3_addToSum (kX3_addToSum f (kX3_rightOf f x1) (((((f 5 (ix x1)) &&& 15) - (f 7 (ix x1))) &&& 15) + (-16))) (kX3_leftOf (kX3_addToSum f (kX3_rightOf f x1) (((((f 5 (ix x1)) &&& 15) - (f 7 (ix x1))) &&& 15) + (-16))) x1) (-(((((f 5 (ix x1)) &&& 15) - (f 7 (ix x1))) &&& 15) + (-16)))) ++ X) H := hP
  have hD : va_D A (LW cI h a (kX3_addToSum (kX3_addToSum f (kX3_rightOf f x1) (((((f 5 (ix x1)) &&& 15) - (f 7 (ix x1))) &&& 15) + (-16))) (kX3_leftOf (kX3_addToSum f (kX3_rightOf f x1) (((((f 5 (ix x1)) &&& 15) - (f 7 (ix x1))) &&& 15) + (-16))) x1) (-(((((f 5 (ix x1)) &&& 15) - (f 7 (ix x1))) &&& 15) + (-16)))) ++ X) := hD
  refine lv_aload_n hx hb dX3_receive_52 rfl (lv_at hl 2 rfl) ?_
  refine va_get (v := .ref (a 7)) (C := RX3) (T := TX3) (N := 15) (ci := 3) hx hb hts hinX3 hown hK hP 0 rfl rfl 7 (by decide) (hts (.fieldLink RX3 24 "AxleKeeper$Line" "heard" "[I") (by decide +kernel)) (fun _ h9 => h9) rfl dX3_receive_53 ?_
  refine lv_iload_n hx hb dX3_receive_56 rfl (lv_at hl 3 rfl) ?_
  refine lv_iload_n hx hb dX3_receive_57 rfl (lv_at hl 1 rfl) ?_
  refine st_L7 (x := ((f 5 (ix x1)) &&& 15)) hx hb hK hP hD hS (by assumption) dX3_receive_58 (fun H locs hP hD hS => ?_)
  refine lv_aload_n hx hb dX3_receive_59 rfl (lv_at hl 2 rfl) ?_
  refine va_get (v := .ref (a 8)) (C := RX3) (T := TX3) (N := 15) (ci := 3) hx hb hts hinX3 hown hK hP 0 rfl rfl 8 (by decide) (hts (.fieldLink RX3 27 "AxleKeeper$Line" "heardFaulty" "[I") (by decide +kernel)) (fun _ h9 => h9) rfl dX3_receive_60 ?_
  refine lv_iload_n hx hb dX3_receive_63 rfl (lv_at hl 3 rfl) ?_
  refine lv_aload_n hx hb dX3_receive_64 rfl (lv_at hl 2 rfl) ?_
  refine va_get (v := .ref (a 6)) (C := RX3) (T := TX3) (N := 15) (ci := 3) hx hb hts hinX3 hown hK hP 0 rfl rfl 6 (by decide) (hts (.fieldLink RX3 21 "AxleKeeper$Line" "faulty" "[I") (by decide +kernel)) (fun _ h9 => h9) rfl dX3_receive_65 ?_
  refine lv_iload_n hx hb dX3_receive_68 rfl (lv_at hl 3 rfl) ?_
  refine va_iald hx hb hK hP 4 0 rfl rfl (n := 7) (by assumption) dX3_receive_69 ?_
  refine st_L8 (x := ((kX3_addToSum (kX3_addToSum f (kX3_rightOf f x1) (((((f 5 (ix x1)) &&& 15) - (f 7 (ix x1))) &&& 15) + (-16))) (kX3_leftOf (kX3_addToSum f (kX3_rightOf f x1) (((((f 5 (ix x1)) &&& 15) - (f 7 (ix x1))) &&& 15) + (-16))) x1) (-(((((f 5 (ix x1)) &&& 15) - (f 7 (ix x1))) &&& 15) + (-16)))) 6 (ix x1))) hx hb hK hP hD hS (by assumption) dX3_receive_70 (fun H locs hP hD hS => ?_)
  refine lv_aload_n hx hb dX3_receive_71 rfl (lv_at hl 2 rfl) ?_
  refine va_get (v := .ref (a 9)) (C := RX3) (T := TX3) (N := 15) (ci := 3) hx hb hts hinX3 hown hK hP 0 rfl rfl 9 (by decide) (hts (.fieldLink RX3 30 "AxleKeeper$Line" "age" "[I") (by decide +kernel)) (fun _ h9 => h9) rfl dX3_receive_72 ?_
  refine lv_iload_n hx hb dX3_receive_75 rfl (lv_at hl 3 rfl) ?_
  refine lv_iconst (v := 0) hx hb dX3_receive_76 (by decide) ?_
  refine st_L9 (x := 0) hx hb hK hP hD hS (by assumption) dX3_receive_77 (fun H locs hP hD hS => ?_)
  have hρ : kX3_receive f x1 = (up2 (up2 (up2 (kX3_addToSum (kX3_addToSum f (kX3_rightOf f x1) (((((f 5 (ix x1)) &&& 15) - (f 7 (ix x1))) &&& 15) + (-16))) (kX3_leftOf (kX3_addToSum f (kX3_rightOf f x1) (((((f 5 (ix x1)) &&& 15) - (f 7 (ix x1))) &&& 15) + (-16))) x1) (-(((((f 5 (ix x1)) &&& 15) - (f 7 (ix x1))) &&& 15) + (-16)))) 7 (ix x1) ((f 5 (ix x1)) &&& 15)) 8 (ix x1) ((kX3_addToSum (kX3_addToSum f (kX3_rightOf f x1) (((((f 5 (ix x1)) &&& 15) - (f 7 (ix x1))) &&& 15) + (-16))) (kX3_leftOf (kX3_addToSum f (kX3_rightOf f x1) (((((f 5 (ix x1)) &&& 15) - (f 7 (ix x1))) &&& 15) + (-16))) x1) (-(((((f 5 (ix x1)) &&& 15) - (f 7 (ix x1))) &&& 15) + (-16)))) 6 (ix x1))) 9 (ix x1) 0) := (if_neg c_25)
  exact e_wv hx hb hr hlk hK hP hD hS dX3_receive_78 (congrArg (fun z => (LW cI h a z ++ X)) hρ).symm
theorem ndX3_hear : yX3_hear.cls = RX3 ∧ yX3_hear.cls ≠ "java/lang/invoke/MethodHandle" ∧ yX3_hear.cls ≠ "java/lang/invoke/VarHandle" ∧ (parseMethodDescriptor yX3_hear.desc).map (fun d => d.parameters.length) = some 1 := by decide +kernel
set_option maxHeartbeats 4000000 in
set_option maxRecDepth 100000 in
theorem lpX3_hear_2 {p : Program} {e : Env} {s : State} {m : MethodId} {below : List Frame} {meth : Method} {c : Code} (l : Launch) (D : va_G) (cI cZ cQ : ClassId) (h : Nat) (a : Nat → Nat) (X : va_W) (x1 : Int32) (A : Nat → Prop) (hA : ∀ q, s.heap.size ≤ q → A q) (S : CallFix p m c cX3_hear 3 s ([.ref h, .int x1] : List Value).toArray wsX3_hear RX3) (hr : meth.sig.returnType = none) (hlk : meth.locks = false) (hK : va_K D vwCl (TY cI cZ cQ) s)  : ∀ (n i : Nat) (f : Nat → Nat → Int32) (H : Heap) (locs : List Loc), i ≤ 7 → 7 - i < n → (hok : okL f) → va_P D vwCl (LW cI h a f ++ X) H → va_D A (LW cI h a f ++ X) → va_S A s.heap H locs → ∀ {ls : Array Slot}, lv_has ls 3 [(0, .ref h), (1, .int x1), (2, .int (nI i))] → ∀ ρ : (Nat → Nat → Int32), ρ = kX3_hear_2 x1 n i f → W p l e { frames := 3, cells := 0, slots := 0, locals := 66 } s m ([.ref h, .int x1] : List Value).toArray below meth c H locs 0 0 (MQ below (QV D (TY cI cZ cQ) (LW cI h a ρ ++ X) A) ([.ref h, .int x1] : List Value).toArray s 0 0 A) (F0 m 2 ls []) := by
  have hx := S.1
  have hb := S.2.1
  have hown : s.vm.findClass RX3 = some m.cls := S.2.2.2.1
  have hts := S.2.2.2.2
  have hinX3 : ∀ w ∈ wsX30, w ∈ wsX3_hear := by decide +kernel
  intro n
  induction n with
  | zero =>
    intro i _ _ _ hi hn
    exact absurd hn (Nat.not_lt_zero _)
  | succ n ih =>
    intro i  f H locs hi hn hok hP hD hS ls hl ρ hρ0
    refine lv_iload_n hx hb dX3_hear_2 rfl (lv_at hl 2 rfl) ?_
    refine lv_aload_n hx hb dX3_hear_3 rfl (lv_at hl 0 rfl) ?_
    refine k_rd (As := []) (rest := [.int (nI i)]) (bytes := cX3_heads) (C := RX3) S (okX3_heads l D cI cZ cQ h a X f ) gX3_hear_X3_heads rfl ⟨rfl, rfl⟩ ndX3_heads ⟨Nat.le_of_ble_eq_true rfl, Nat.le_of_ble_eq_true rfl⟩ hK hP 0 rfl rfl rfl hl rfl (Nat.le_of_ble_eq_true rfl) dX3_hear_4 ⟨Nat.zero_le _, Nat.zero_le _⟩ ?_
    refine lv_icmp_ge (tgt := 53) hx hb dX3_hear_7 (by decide) (fun c_7 => ?_) (fun c_7 => ?_)
    · have c_7 : (kX3_heads f) ≤ (nI i) := c_7
      have hρ : kX3_hear_2 x1 (n + 1) i f = f := (if_pos c_7)
      have hρ := hρ0.trans hρ
      exact e_wv hx hb hr hlk hK hP hD hS dX3_hear_53 (congrArg (fun z => (LW cI h a z ++ X)) hρ).symm
    have c_7 : ¬ ((kX3_heads f) ≤ (nI i)) := c_7
    have hlt : i < 7 := il_lt (heads_le hok) (by decide) hi c_7
    have hvi : vp_in (nI i) 7 := vp_in_nI hlt (by decide)
    refine lv_iload_n hx hb dX3_hear_10 rfl (lv_at hl 1 rfl) ?_
    refine lv_iload_n hx hb dX3_hear_11 rfl (lv_at hl 2 rfl) ?_
    refine lv_ishr hx hb dX3_hear_12 ?_
    refine lv_iconst (v := 1) hx hb dX3_hear_13 (by decide) ?_
    refine lv_iand hx hb dX3_hear_14 ?_
    refine lv_if_ne (tgt := 26) hx hb dX3_hear_15 (by decide) (fun c_15 => ?_) (fun c_15 => ?_)
    · have c_15 : ¬ (((x1 >>> ((nI i) &&& 31)) &&& 1) = 0) := c_15
      refine lv_aload_n hx hb dX3_hear_26 rfl (lv_at hl 0 rfl) ?_
      refine va_get (v := .ref (a 9)) (C := RX3) (T := TX3) (N := 15) (ci := 3) hx hb hts hinX3 hown hK hP 0 rfl rfl 9 (by decide) (hts (.fieldLink RX3 30 "AxleKeeper$Line" "age" "[I") (by decide +kernel)) (fun _ h9 => h9) rfl dX3_hear_27 ?_
      refine lv_iload_n hx hb dX3_hear_30 rfl (lv_at hl 2 rfl) ?_
      refine va_iald hx hb hK hP 7 0 rfl rfl (n := 7) (by assumption) dX3_hear_31 ?_
      refine lv_bipush (v := 99) hx hb dX3_hear_32 (by decide) ?_
      refine lv_icmp_ge (tgt := 47) hx hb dX3_hear_34 (by decide) (fun c_34 => ?_) (fun c_34 => ?_)
      · have c_34 : 99 ≤ (f 9 (ix (nI i))) := c_34
        refine lv_iinc (v := (nI (i + 1))) (lv' := [(2, .int (nI (i + 1))), (0, .ref h), (1, .int x1)]) hx hb dX3_hear_47 hl (k := 2) rfl (nI_1 i) (by decide) rfl (fun ls hl => ?_)
        refine lv_goto (tgt := 2) hx hb dX3_hear_50 (by decide) ?_
        have hρ : kX3_hear_2 x1 (n + 1) i f = kX3_hear_2 x1 n (i + 1) f := (if_neg c_7).trans ((if_neg c_15).trans ((if_pos c_34)))
        have hρ := hρ0.trans hρ
        exact ih  (i + 1)  f _ _ (by omega) (by omega) (by first | exact hok | exact ok_receive hok) hP hD hS (lv_sub hl [1, 2, 0] rfl) _ hρ
      have c_34 : ¬ (99 ≤ (f 9 (ix (nI i)))) := c_34
      refine lv_aload_n hx hb dX3_hear_37 rfl (lv_at hl 0 rfl) ?_
      refine va_get (v := .ref (a 9)) (C := RX3) (T := TX3) (N := 15) (ci := 3) hx hb hts hinX3 hown hK hP 0 rfl rfl 9 (by decide) (hts (.fieldLink RX3 30 "AxleKeeper$Line" "age" "[I") (by decide +kernel)) (fun _ h9 => h9) rfl dX3_hear_38 ?_
      refine lv_iload_n hx hb dX3_hear_41 rfl (lv_at hl 2 rfl) ?_
      refine lv_dup2_11 hx hb dX3_hear_42 rfl rfl ?_
      refine va_iald hx hb hK hP 7 0 rfl rfl (n := 7) (by assumption) dX3_hear_43 ?_
      refine lv_iconst (v := 1) hx hb dX3_hear_44 (by decide) ?_
      refine lv_iadd hx hb dX3_hear_45 ?_
      refine st_L9 (x := ((f 9 (ix (nI i))) + 1)) hx hb hK hP hD hS (by assumption) dX3_hear_46 (fun H locs hP hD hS => ?_)
      refine lv_iinc (v := (nI (i + 1))) (lv' := [(2, .int (nI (i + 1))), (0, .ref h), (1, .int x1)]) hx hb dX3_hear_47 hl (k := 2) rfl (nI_1 i) (by decide) rfl (fun ls hl => ?_)
      refine lv_goto (tgt := 2) hx hb dX3_hear_50 (by decide) ?_
      have hρ : kX3_hear_2 x1 (n + 1) i f = kX3_hear_2 x1 n (i + 1) (up2 f 9 (ix (nI i)) ((f 9 (ix (nI i))) + 1)) := (if_neg c_7).trans ((if_neg c_15).trans ((if_neg c_34)))
      have hρ := hρ0.trans hρ
      exact ih  (i + 1)  (up2 f 9 (ix (nI i)) ((f 9 (ix (nI i))) + 1)) _ _ (by omega) (by omega) (by first | exact hok | exact ok_receive hok) hP hD hS (lv_sub hl [1, 2, 0] rfl) _ hρ
    have c_15 : ((x1 >>> ((nI i) &&& 31)) &&& 1) = 0 := c_15
    refine lv_aload_n hx hb dX3_hear_18 rfl (lv_at hl 0 rfl) ?_
    refine lv_iload_n hx hb dX3_hear_19 rfl (lv_at hl 2 rfl) ?_
    refine k_wv (As := [.int (nI i)]) (rest := []) (bytes := cX3_receive) (C := RX3) S (okX3_receive l D cI cZ cQ h a X f (nI i) _ (by assumption) (by assumption)) gX3_hear_X3_receive rfl ⟨rfl, rfl⟩ ndX3_receive ⟨Nat.le_of_ble_eq_true rfl, Nat.le_of_ble_eq_true rfl⟩ hK hP hD hS hA 0 rfl rfl rfl hl rfl (Nat.le_of_ble_eq_true rfl) dX3_hear_20 ⟨Nat.zero_le _, Nat.zero_le _⟩ (fun H locs hP hD hS => ?_)
    have hP : va_P D vwCl (LW cI h a (kX3_receive f (nI i)) ++ X) H := hP
    have hD : va_D A (LW cI h a (kX3_receive f (nI i)) ++ X) := hD
    refine lv_goto (tgt := 47) hx hb dX3_hear_23 (by decide) ?_
    refine lv_iinc (v := (nI (i + 1))) (lv' := [(2, .int (nI (i + 1))), (0, .ref h), (1, .int x1)]) hx hb dX3_hear_47 hl (k := 2) rfl (nI_1 i) (by decide) rfl (fun ls hl => ?_)
    refine lv_goto (tgt := 2) hx hb dX3_hear_50 (by decide) ?_
    have hρ : kX3_hear_2 x1 (n + 1) i f = kX3_hear_2 x1 n (i + 1) (kX3_receive f (nI i)) := (if_neg c_7).trans ((if_pos c_15))
    have hρ := hρ0.trans hρ
    exact ih  (i + 1)  (kX3_receive f (nI i)) _ _ (by omega) (by omega) (by first | exact hok | exact ok_receive hok) hP hD hS (lv_sub hl [1, 2, 0] rfl) _ hρ
set_option maxHeartbeats 4000000 in
set_option maxRecDepth 100000 in
theorem okX3_hear (l : Launch) (D : va_G) (cI cZ cQ : ClassId) (h : Nat) (a : Nat → Nat) (X : va_W) (f : Nat → Nat → Int32) (x1 : Int32) (sz : Nat) (hok : okL f) : Met l yX3_hear wsX3_hear ({ frames := 3, cells := 0, slots := 0, locals := 66 }) (PW [.ref h, .int x1] sz D (TY cI cZ cQ) (LW cI h a f ++ X)) (QV D (TY cI cZ cQ) (LW cI h a (kX3_hear f x1) ++ X) (va_A (LW cI h a f ++ X) sz)) 0 0 (va_A (LW cI h a f ++ X) sz) := by
  refine m_wr (cc := cX3_hear) (maxL := 3) (ret := none) (by decide) rfl (Nat.le_of_ble_eq_true rfl) (lv0 := [(0, .ref h), (1, .int x1)]) rfl ?_
  intro p e s m below meth c ls A hAe S hr hlk hP hK hD hS hA hl
  rw [← hAe]
  have S : CallFix p m c cX3_hear 3 s ([.ref h, .int x1] : List Value).toArray wsX3_hear RX3 := S
  have hx := S.1
  have hb := S.2.1
  have hown : s.vm.findClass RX3 = some m.cls := S.2.2.2.1
  have hts := S.2.2.2.2
  have hinX3 : ∀ w ∈ wsX30, w ∈ wsX3_hear := by decide +kernel
  refine lv_iconst (v := 0) hx hb dX3_hear_0 (by decide) ?_
  refine lv_istore_n (lv' := [(2, .int 0), (0, .ref h), (1, .int x1)]) hx hb dX3_hear_1 rfl hl (by decide) rfl (fun ls hl => ?_)
  have hρ : kX3_hear f x1 = kX3_hear_2 x1 8 0 f := rfl
  exact lpX3_hear_2 l D cI cZ cQ h a X x1 A hA S hr hlk hK   8 0  f _ _ (by omega) (by omega) hok hP hD hS (lv_sub hl [1, 2, 0] rfl) _ hρ
theorem ndX3_judgeSweep : yX3_judgeSweep.cls = RX3 ∧ yX3_judgeSweep.cls ≠ "java/lang/invoke/MethodHandle" ∧ yX3_judgeSweep.cls ≠ "java/lang/invoke/VarHandle" ∧ (parseMethodDescriptor yX3_judgeSweep.desc).map (fun d => d.parameters.length) = some 1 := by decide +kernel
set_option maxHeartbeats 4000000 in
set_option maxRecDepth 100000 in
theorem okX3_judgeSweep (l : Launch) (D : va_G) (cI cZ cQ : ClassId) (h : Nat) (a : Nat → Nat) (X : va_W) (f : Nat → Nat → Int32) (x1 : Int32) (sz : Nat) (h1 : vp_in x1 6) : Met l yX3_judgeSweep wsX3_judgeSweep ({ frames := 0, cells := 0, slots := 0, locals := 0 }) (PW [.ref h, .int x1] sz D (TY cI cZ cQ) (LW cI h a f ++ X)) (QV D (TY cI cZ cQ) (LW cI h a (kX3_judgeSweep f x1) ++ X) (va_A (LW cI h a f ++ X) sz)) 0 0 (va_A (LW cI h a f ++ X) sz) := by
  refine m_wr (cc := cX3_judgeSweep) (maxL := 2) (ret := none) (by decide) rfl (Nat.le_of_ble_eq_true rfl) (lv0 := [(0, .ref h), (1, .int x1)]) rfl ?_
  intro p e s m below meth c ls A hAe S hr hlk hP hK hD hS hA hl
  rw [← hAe]
  have S : CallFix p m c cX3_judgeSweep 2 s ([.ref h, .int x1] : List Value).toArray wsX3_judgeSweep RX3 := S
  have hx := S.1
  have hb := S.2.1
  have hown : s.vm.findClass RX3 = some m.cls := S.2.2.2.1
  have hts := S.2.2.2.2
  have hinX3 : ∀ w ∈ wsX30, w ∈ wsX3_judgeSweep := by decide +kernel
  refine lv_aload_n hx hb dX3_judgeSweep_0 rfl (lv_at hl 0 rfl) ?_
  refine va_get (v := .ref (a 11)) (C := RX3) (T := TX3) (N := 15) (ci := 3) hx hb hts hinX3 hown hK hP 0 rfl rfl 11 (by decide) (hts (.fieldLink RX3 36 "AxleKeeper$Line" "sum" "[I") (by decide +kernel)) (fun _ h9 => h9) rfl dX3_judgeSweep_1 ?_
  refine lv_iload_n hx hb dX3_judgeSweep_4 rfl (lv_at hl 1 rfl) ?_
  refine va_iald hx hb hK hP 9 0 rfl rfl (n := 6) (by assumption) dX3_judgeSweep_5 ?_
  refine lv_if_le (tgt := 19) hx hb dX3_judgeSweep_6 (by decide) (fun c_6 => ?_) (fun c_6 => ?_)
  · have c_6 : (f 11 (ix x1)) ≤ 0 := c_6
    refine lv_aload_n hx hb dX3_judgeSweep_19 rfl (lv_at hl 0 rfl) ?_
    refine va_get (v := .ref (a 13)) (C := RX3) (T := TX3) (N := 15) (ci := 3) hx hb hts hinX3 hown hK hP 0 rfl rfl 13 (by decide) (hts (.fieldLink RX3 42 "AxleKeeper$Line" "entered" "[I") (by decide +kernel)) (fun _ h9 => h9) rfl dX3_judgeSweep_20 ?_
    refine lv_iload_n hx hb dX3_judgeSweep_23 rfl (lv_at hl 1 rfl) ?_
    refine va_iald hx hb hK hP 11 0 rfl rfl (n := 6) (by assumption) dX3_judgeSweep_24 ?_
    refine lv_iconst (v := 1) hx hb dX3_judgeSweep_25 (by decide) ?_
    refine lv_icmp_ne (tgt := 36) hx hb dX3_judgeSweep_26 (by decide) (fun c_26 => ?_) (fun c_26 => ?_)
    · have c_26 : ¬ ((f 13 (ix x1)) = 1) := c_26
      have hρ : kX3_judgeSweep f x1 = f := (if_pos c_6).trans ((if_neg c_26))
      exact e_wv hx hb hr hlk hK hP hD hS dX3_judgeSweep_36 (congrArg (fun z => (LW cI h a z ++ X)) hρ).symm
    have c_26 : (f 13 (ix x1)) = 1 := c_26
    refine lv_aload_n hx hb dX3_judgeSweep_29 rfl (lv_at hl 0 rfl) ?_
    refine va_get (v := .ref (a 12)) (C := RX3) (T := TX3) (N := 15) (ci := 3) hx hb hts hinX3 hown hK hP 0 rfl rfl 12 (by decide) (hts (.fieldLink RX3 39 "AxleKeeper$Line" "call" "[I") (by decide +kernel)) (fun _ h9 => h9) rfl dX3_judgeSweep_30 ?_
    refine lv_iload_n hx hb dX3_judgeSweep_33 rfl (lv_at hl 1 rfl) ?_
    refine lv_iconst (v := 0) hx hb dX3_judgeSweep_34 (by decide) ?_
    refine st_L12 (x := 0) hx hb hK hP hD hS (by assumption) dX3_judgeSweep_35 (fun H locs hP hD hS => ?_)
    have hρ : kX3_judgeSweep f x1 = (up2 f 12 (ix x1) 0) := (if_pos c_6).trans ((if_pos c_26))
    exact e_wv hx hb hr hlk hK hP hD hS dX3_judgeSweep_36 (congrArg (fun z => (LW cI h a z ++ X)) hρ).symm
  have c_6 : ¬ ((f 11 (ix x1)) ≤ 0) := c_6
  refine lv_aload_n hx hb dX3_judgeSweep_9 rfl (lv_at hl 0 rfl) ?_
  refine va_get (v := .ref (a 13)) (C := RX3) (T := TX3) (N := 15) (ci := 3) hx hb hts hinX3 hown hK hP 0 rfl rfl 13 (by decide) (hts (.fieldLink RX3 42 "AxleKeeper$Line" "entered" "[I") (by decide +kernel)) (fun _ h9 => h9) rfl dX3_judgeSweep_10 ?_
  refine lv_iload_n hx hb dX3_judgeSweep_13 rfl (lv_at hl 1 rfl) ?_
  refine lv_iconst (v := 1) hx hb dX3_judgeSweep_14 (by decide) ?_
  refine st_L13 (x := 1) hx hb hK hP hD hS (by assumption) dX3_judgeSweep_15 (fun H locs hP hD hS => ?_)
  refine lv_goto (tgt := 36) hx hb dX3_judgeSweep_16 (by decide) ?_
  have hρ : kX3_judgeSweep f x1 = (up2 f 13 (ix x1) 1) := (if_neg c_6)
  exact e_wv hx hb hr hlk hK hP hD hS dX3_judgeSweep_36 (congrArg (fun z => (LW cI h a z ++ X)) hρ).symm
theorem ndX3_judge : yX3_judge.cls = RX3 ∧ yX3_judge.cls ≠ "java/lang/invoke/MethodHandle" ∧ yX3_judge.cls ≠ "java/lang/invoke/VarHandle" ∧ (parseMethodDescriptor yX3_judge.desc).map (fun d => d.parameters.length) = some 1 := by decide +kernel
set_option maxHeartbeats 4000000 in
set_option maxRecDepth 100000 in
theorem okX3_judge (l : Launch) (D : va_G) (cI cZ cQ : ClassId) (h : Nat) (a : Nat → Nat) (X : va_W) (f : Nat → Nat → Int32) (x1 : Int32) (sz : Nat) (h1 : vp_in x1 6) : Met l yX3_judge wsX3_judge ({ frames := 3, cells := 0, slots := 0, locals := 63 }) (PW [.ref h, .int x1] sz D (TY cI cZ cQ) (LW cI h a f ++ X)) (QV D (TY cI cZ cQ) (LW cI h a (kX3_judge f x1) ++ X) (va_A (LW cI h a f ++ X) sz)) 0 0 (va_A (LW cI h a f ++ X) sz) := by
  refine m_wr (cc := cX3_judge) (maxL := 2) (ret := none) (by decide) rfl (Nat.le_of_ble_eq_true rfl) (lv0 := [(0, .ref h), (1, .int x1)]) rfl ?_
  intro p e s m below meth c ls A hAe S hr hlk hP hK hD hS hA hl
  rw [← hAe]
  have S : CallFix p m c cX3_judge 2 s ([.ref h, .int x1] : List Value).toArray wsX3_judge RX3 := S
  have hx := S.1
  have hb := S.2.1
  have hown : s.vm.findClass RX3 = some m.cls := S.2.2.2.1
  have hts := S.2.2.2.2
  have hinX3 : ∀ w ∈ wsX30, w ∈ wsX3_judge := by decide +kernel
  refine lv_aload_n hx hb dX3_judge_0 rfl (lv_at hl 0 rfl) ?_
  refine lv_iload_n hx hb dX3_judge_1 rfl (lv_at hl 1 rfl) ?_
  refine k_rd (As := [.int x1]) (rest := []) (bytes := cX3_hasTrouble) (C := RX3) S (okX3_hasTrouble l D cI cZ cQ h a X f x1 (by assumption)) gX3_judge_X3_hasTrouble rfl ⟨rfl, rfl⟩ ndX3_hasTrouble ⟨Nat.le_of_ble_eq_true rfl, Nat.le_of_ble_eq_true rfl⟩ hK hP 0 rfl rfl rfl hl rfl (Nat.le_of_ble_eq_true rfl) dX3_judge_2 ⟨Nat.zero_le _, Nat.zero_le _⟩ ?_
  refine lv_if_eq (tgt := 18) hx hb dX3_judge_5 (by decide) (fun c_5 => ?_) (fun c_5 => ?_)
  · have c_5 : (kX3_hasTrouble f x1) = 0 := c_5
    refine lv_aload_n hx hb dX3_judge_18 rfl (lv_at hl 0 rfl) ?_
    refine va_get (v := .ref (a 12)) (C := RX3) (T := TX3) (N := 15) (ci := 3) hx hb hts hinX3 hown hK hP 0 rfl rfl 12 (by decide) (hts (.fieldLink RX3 39 "AxleKeeper$Line" "call" "[I") (by decide +kernel)) (fun _ h9 => h9) rfl dX3_judge_19 ?_
    refine lv_iload_n hx hb dX3_judge_22 rfl (lv_at hl 1 rfl) ?_
    refine va_iald hx hb hK hP 10 0 rfl rfl (n := 6) (by assumption) dX3_judge_23 ?_
    refine lv_iconst (v := 3) hx hb dX3_judge_24 (by decide) ?_
    refine lv_icmp_ne (tgt := 36) hx hb dX3_judge_25 (by decide) (fun c_25 => ?_) (fun c_25 => ?_)
    · have c_25 : ¬ ((f 12 (ix x1)) = 3) := c_25
      refine lv_aload_n hx hb dX3_judge_36 rfl (lv_at hl 0 rfl) ?_
      refine va_get (v := .ref (a 12)) (C := RX3) (T := TX3) (N := 15) (ci := 3) hx hb hts hinX3 hown hK hP 0 rfl rfl 12 (by decide) (hts (.fieldLink RX3 39 "AxleKeeper$Line" "call" "[I") (by decide +kernel)) (fun _ h9 => h9) rfl dX3_judge_37 ?_
      refine lv_iload_n hx hb dX3_judge_40 rfl (lv_at hl 1 rfl) ?_
      refine va_iald hx hb hK hP 10 0 rfl rfl (n := 6) (by assumption) dX3_judge_41 ?_
      refine lv_iconst (v := 2) hx hb dX3_judge_42 (by decide) ?_
      refine lv_icmp_eq (tgt := 66) hx hb dX3_judge_43 (by decide) (fun c_43 => ?_) (fun c_43 => ?_)
      · have c_43 : (f 12 (ix x1)) = 2 := c_43
        have hρ : kX3_judge f x1 = f := (if_pos c_5).trans ((if_neg c_25).trans ((if_pos c_43)))
        exact e_wv hx hb hr hlk hK hP hD hS dX3_judge_66 (congrArg (fun z => (LW cI h a z ++ X)) hρ).symm
      have c_43 : ¬ ((f 12 (ix x1)) = 2) := c_43
      refine lv_aload_n hx hb dX3_judge_46 rfl (lv_at hl 0 rfl) ?_
      refine va_get (v := .ref (a 12)) (C := RX3) (T := TX3) (N := 15) (ci := 3) hx hb hts hinX3 hown hK hP 0 rfl rfl 12 (by decide) (hts (.fieldLink RX3 39 "AxleKeeper$Line" "call" "[I") (by decide +kernel)) (fun _ h9 => h9) rfl dX3_judge_47 ?_
      refine lv_iload_n hx hb dX3_judge_50 rfl (lv_at hl 1 rfl) ?_
      refine lv_aload_n hx hb dX3_judge_51 rfl (lv_at hl 0 rfl) ?_
      refine va_get (v := .ref (a 11)) (C := RX3) (T := TX3) (N := 15) (ci := 3) hx hb hts hinX3 hown hK hP 0 rfl rfl 11 (by decide) (hts (.fieldLink RX3 36 "AxleKeeper$Line" "sum" "[I") (by decide +kernel)) (fun _ h9 => h9) rfl dX3_judge_52 ?_
      refine lv_iload_n hx hb dX3_judge_55 rfl (lv_at hl 1 rfl) ?_
      refine va_iald hx hb hK hP 9 0 rfl rfl (n := 6) (by assumption) dX3_judge_56 ?_
      refine lv_if_le (tgt := 64) hx hb dX3_judge_57 (by decide) (fun c_57 => ?_) (fun c_57 => ?_)
      · have c_57 : (f 11 (ix x1)) ≤ 0 := c_57
        refine lv_iconst (v := 0) hx hb dX3_judge_64 (by decide) ?_
        refine st_L12 (x := 0) hx hb hK hP hD hS (by assumption) dX3_judge_65 (fun H locs hP hD hS => ?_)
        have hρ : kX3_judge f x1 = (up2 f 12 (ix x1) 0) := (if_pos c_5).trans ((if_neg c_25).trans ((if_neg c_43).trans ((if_pos c_57))))
        exact e_wv hx hb hr hlk hK hP hD hS dX3_judge_66 (congrArg (fun z => (LW cI h a z ++ X)) hρ).symm
      have c_57 : ¬ ((f 11 (ix x1)) ≤ 0) := c_57
      refine lv_iconst (v := 1) hx hb dX3_judge_60 (by decide) ?_
      refine lv_goto (tgt := 65) hx hb dX3_judge_61 (by decide) ?_
      refine st_L12 (x := 1) hx hb hK hP hD hS (by assumption) dX3_judge_65 (fun H locs hP hD hS => ?_)
      have hρ : kX3_judge f x1 = (up2 f 12 (ix x1) 1) := (if_pos c_5).trans ((if_neg c_25).trans ((if_neg c_43).trans ((if_neg c_57))))
      exact e_wv hx hb hr hlk hK hP hD hS dX3_judge_66 (congrArg (fun z => (LW cI h a z ++ X)) hρ).symm
    have c_25 : (f 12 (ix x1)) = 3 := c_25
    refine lv_aload_n hx hb dX3_judge_28 rfl (lv_at hl 0 rfl) ?_
    refine lv_iload_n hx hb dX3_judge_29 rfl (lv_at hl 1 rfl) ?_
    refine k_wv (As := [.int x1]) (rest := []) (bytes := cX3_judgeSweep) (C := RX3) S (okX3_judgeSweep l D cI cZ cQ h a X f x1 _ (by assumption)) gX3_judge_X3_judgeSweep rfl ⟨rfl, rfl⟩ ndX3_judgeSweep ⟨Nat.le_of_ble_eq_true rfl, Nat.le_of_ble_eq_true rfl⟩ hK hP hD hS hA 0 rfl rfl rfl hl rfl (Nat.le_of_ble_eq_true rfl) dX3_judge_30 ⟨Nat.zero_le _, Nat.zero_le _⟩ (fun H locs hP hD hS => ?_)
    have hP : va_P D vwCl (LW cI h a (kX3_judgeSweep f x1) ++ X) H := hP
    have hD : va_D A (LW cI h a (kX3_judgeSweep f x1) ++ X) := hD
    refine lv_goto (tgt := 66) hx hb dX3_judge_33 (by decide) ?_
    have hρ : kX3_judge f x1 = (kX3_judgeSweep f x1) := (if_pos c_5).trans ((if_pos c_25))
    exact e_wv hx hb hr hlk hK hP hD hS dX3_judge_66 (congrArg (fun z => (LW cI h a z ++ X)) hρ).symm
  have c_5 : ¬ ((kX3_hasTrouble f x1) = 0) := c_5
  refine lv_aload_n hx hb dX3_judge_8 rfl (lv_at hl 0 rfl) ?_
  refine va_get (v := .ref (a 12)) (C := RX3) (T := TX3) (N := 15) (ci := 3) hx hb hts hinX3 hown hK hP 0 rfl rfl 12 (by decide) (hts (.fieldLink RX3 39 "AxleKeeper$Line" "call" "[I") (by decide +kernel)) (fun _ h9 => h9) rfl dX3_judge_9 ?_
  refine lv_iload_n hx hb dX3_judge_12 rfl (lv_at hl 1 rfl) ?_
  refine lv_iconst (v := 2) hx hb dX3_judge_13 (by decide) ?_
  refine st_L12 (x := 2) hx hb hK hP hD hS (by assumption) dX3_judge_14 (fun H locs hP hD hS => ?_)
  refine lv_goto (tgt := 66) hx hb dX3_judge_15 (by decide) ?_
  have hρ : kX3_judge f x1 = (up2 f 12 (ix x1) 2) := (if_neg c_5)
  exact e_wv hx hb hr hlk hK hP hD hS dX3_judge_66 (congrArg (fun z => (LW cI h a z ++ X)) hρ).symm
theorem ndX3_heal : yX3_heal.cls = RX3 ∧ yX3_heal.cls ≠ "java/lang/invoke/MethodHandle" ∧ yX3_heal.cls ≠ "java/lang/invoke/VarHandle" ∧ (parseMethodDescriptor yX3_heal.desc).map (fun d => d.parameters.length) = some 3 := by decide +kernel
set_option maxHeartbeats 4000000 in
set_option maxRecDepth 100000 in
theorem okX3_heal (l : Launch) (D : va_G) (cI cZ cQ : ClassId) (h : Nat) (a : Nat → Nat) (X : va_W) (f : Nat → Nat → Int32) (x1 x2 x3 : Int32) (sz : Nat) (h1 : vp_in x1 7) (h2 : vp_in x2 6) (h3 : vp_in x3 6) : Met l yX3_heal wsX3_heal ({ frames := 0, cells := 0, slots := 0, locals := 0 }) (PW [.ref h, .int x1, .int x2, .int x3] sz D (TY cI cZ cQ) (LW cI h a f ++ X)) (QV D (TY cI cZ cQ) (LW cI h a (kX3_heal f x1 x2 x3) ++ X) (va_A (LW cI h a f ++ X) sz)) 0 0 (va_A (LW cI h a f ++ X) sz) := by
  refine m_wr (cc := cX3_heal) (maxL := 4) (ret := none) (by decide) rfl (Nat.le_of_ble_eq_true rfl) (lv0 := [(0, .ref h), (1, .int x1), (2, .int x2), (3, .int x3)]) rfl ?_
  intro p e s m below meth c ls A hAe S hr hlk hP hK hD hS hA hl
  rw [← hAe]
  have S : CallFix p m c cX3_heal 4 s ([.ref h, .int x1, .int x2, .int x3] : List Value).toArray wsX3_heal RX3 := S
  have hx := S.1
  have hb := S.2.1
  have hown : s.vm.findClass RX3 = some m.cls := S.2.2.2.1
  have hts := S.2.2.2.2
  have hinX3 : ∀ w ∈ wsX30, w ∈ wsX3_heal := by decide +kernel
  refine lv_aload_n hx hb dX3_heal_0 rfl (lv_at hl 0 rfl) ?_
  refine va_get (v := .ref (a 11)) (C := RX3) (T := TX3) (N := 15) (ci := 3) hx hb hts hinX3 hown hK hP 0 rfl rfl 11 (by decide) (hts (.fieldLink RX3 36 "AxleKeeper$Line" "sum" "[I") (by decide +kernel)) (fun _ h9 => h9) rfl dX3_heal_1 ?_
  refine lv_iload_n hx hb dX3_heal_4 rfl (lv_at hl 2 rfl) ?_
  refine lv_iconst (v := 0) hx hb dX3_heal_5 (by decide) ?_
  refine st_L11 (x := 0) hx hb hK hP hD hS (by assumption) dX3_heal_6 (fun H locs hP hD hS => ?_)
  refine lv_aload_n hx hb dX3_heal_7 rfl (lv_at hl 0 rfl) ?_
  refine va_get (v := .ref (a 11)) (C := RX3) (T := TX3) (N := 15) (ci := 3) hx hb hts hinX3 hown hK hP 0 rfl rfl 11 (by decide) (hts (.fieldLink RX3 36 "AxleKeeper$Line" "sum" "[I") (by decide +kernel)) (fun _ h9 => h9) rfl dX3_heal_8 ?_
  refine lv_iload_n hx hb dX3_heal_11 rfl (lv_at hl 3 rfl) ?_
  refine lv_iconst (v := 0) hx hb dX3_heal_12 (by decide) ?_
  refine st_L11 (x := 0) hx hb hK hP hD hS (by assumption) dX3_heal_13 (fun H locs hP hD hS => ?_)
  refine lv_aload_n hx hb dX3_heal_14 rfl (lv_at hl 0 rfl) ?_
  refine va_get (v := .ref (a 12)) (C := RX3) (T := TX3) (N := 15) (ci := 3) hx hb hts hinX3 hown hK hP 0 rfl rfl 12 (by decide) (hts (.fieldLink RX3 39 "AxleKeeper$Line" "call" "[I") (by decide +kernel)) (fun _ h9 => h9) rfl dX3_heal_15 ?_
  refine lv_iload_n hx hb dX3_heal_18 rfl (lv_at hl 2 rfl) ?_
  refine lv_iconst (v := 0) hx hb dX3_heal_19 (by decide) ?_
  refine st_L12 (x := 0) hx hb hK hP hD hS (by assumption) dX3_heal_20 (fun H locs hP hD hS => ?_)
  refine lv_aload_n hx hb dX3_heal_21 rfl (lv_at hl 0 rfl) ?_
  refine va_get (v := .ref (a 12)) (C := RX3) (T := TX3) (N := 15) (ci := 3) hx hb hts hinX3 hown hK hP 0 rfl rfl 12 (by decide) (hts (.fieldLink RX3 39 "AxleKeeper$Line" "call" "[I") (by decide +kernel)) (fun _ h9 => h9) rfl dX3_heal_22 ?_
  refine lv_iload_n hx hb dX3_heal_25 rfl (lv_at hl 3 rfl) ?_
  refine lv_iconst (v := 0) hx hb dX3_heal_26 (by decide) ?_
  refine st_L12 (x := 0) hx hb hK hP hD hS (by assumption) dX3_heal_27 (fun H locs hP hD hS => ?_)
  refine lv_aload_n hx hb dX3_heal_28 rfl (lv_at hl 0 rfl) ?_
  refine va_get (v := .ref (a 10)) (C := RX3) (T := TX3) (N := 15) (ci := 3) hx hb hts hinX3 hown hK hP 0 rfl rfl 10 (by decide) (hts (.fieldLink RX3 33 "AxleKeeper$Line" "sweptOver" "[I") (by decide +kernel)) (fun _ h9 => h9) rfl dX3_heal_29 ?_
  refine lv_iload_n hx hb dX3_heal_32 rfl (lv_at hl 1 rfl) ?_
  refine lv_iconst (v := 0) hx hb dX3_heal_33 (by decide) ?_
  refine st_L10 (x := 0) hx hb hK hP hD hS (by assumption) dX3_heal_34 (fun H locs hP hD hS => ?_)
  have hρ : kX3_heal f x1 x2 x3 = (up2 (up2 (up2 (up2 (up2 f 11 (ix x2) 0) 11 (ix x3) 0) 12 (ix x2) 0) 12 (ix x3) 0) 10 (ix x1) 0) := rfl
  exact e_wv hx hb hr hlk hK hP hD hS dX3_heal_35 (congrArg (fun z => (LW cI h a z ++ X)) hρ).symm
theorem ndX3_judgeJoint : yX3_judgeJoint.cls = RX3 ∧ yX3_judgeJoint.cls ≠ "java/lang/invoke/MethodHandle" ∧ yX3_judgeJoint.cls ≠ "java/lang/invoke/VarHandle" ∧ (parseMethodDescriptor yX3_judgeJoint.desc).map (fun d => d.parameters.length) = some 3 := by decide +kernel
set_option maxHeartbeats 4000000 in
set_option maxRecDepth 100000 in
theorem okX3_judgeJoint (l : Launch) (D : va_G) (cI cZ cQ : ClassId) (h : Nat) (a : Nat → Nat) (X : va_W) (f : Nat → Nat → Int32) (x1 x2 x3 : Int32) (sz : Nat) (hok : okL f) (h1 : vp_in x1 7) (h2 : vp_in x2 6) (h3 : vp_in x3 6) : Met l yX3_judgeJoint wsX3_judgeJoint ({ frames := 3, cells := 0, slots := 0, locals := 67 }) (PW [.ref h, .int x1, .int x2, .int x3] sz D (TY cI cZ cQ) (LW cI h a f ++ X)) (QV D (TY cI cZ cQ) (LW cI h a (kX3_judgeJoint f x1 x2 x3) ++ X) (va_A (LW cI h a f ++ X) sz)) 0 0 (va_A (LW cI h a f ++ X) sz) := by
  refine m_wr (cc := cX3_judgeJoint) (maxL := 4) (ret := none) (by decide) rfl (Nat.le_of_ble_eq_true rfl) (lv0 := [(0, .ref h), (1, .int x1), (2, .int x2), (3, .int x3)]) rfl ?_
  intro p e s m below meth c ls A hAe S hr hlk hP hK hD hS hA hl
  rw [← hAe]
  have S : CallFix p m c cX3_judgeJoint 4 s ([.ref h, .int x1, .int x2, .int x3] : List Value).toArray wsX3_judgeJoint RX3 := S
  have hx := S.1
  have hb := S.2.1
  have hown : s.vm.findClass RX3 = some m.cls := S.2.2.2.1
  have hts := S.2.2.2.2
  have hinX3 : ∀ w ∈ wsX30, w ∈ wsX3_judgeJoint := by decide +kernel
  refine lv_aload_n hx hb dX3_judgeJoint_0 rfl (lv_at hl 0 rfl) ?_
  refine va_get (v := .ref (a 12)) (C := RX3) (T := TX3) (N := 15) (ci := 3) hx hb hts hinX3 hown hK hP 0 rfl rfl 12 (by decide) (hts (.fieldLink RX3 39 "AxleKeeper$Line" "call" "[I") (by decide +kernel)) (fun _ h9 => h9) rfl dX3_judgeJoint_1 ?_
  refine lv_iload_n hx hb dX3_judgeJoint_4 rfl (lv_at hl 2 rfl) ?_
  refine va_iald hx hb hK hP 10 0 rfl rfl (n := 6) (by assumption) dX3_judgeJoint_5 ?_
  refine lv_iconst (v := 2) hx hb dX3_judgeJoint_6 (by decide) ?_
  refine lv_icmp_eq (tgt := 30) hx hb dX3_judgeJoint_7 (by decide) (fun c_7 => ?_) (fun c_7 => ?_)
  · have c_7 : (f 12 (ix x2)) = 2 := c_7
    refine lv_aload_n hx hb dX3_judgeJoint_30 rfl (lv_at hl 0 rfl) ?_
    refine lv_iload_n hx hb dX3_judgeJoint_31 rfl (lv_at hl 1 rfl) ?_
    refine k_rd (As := [.int x1]) (rest := []) (bytes := cX3_joint) (C := RX3) S (okX3_joint l D cI cZ cQ h a X f x1 (by assumption)) gX3_judgeJoint_X3_joint rfl ⟨rfl, rfl⟩ ndX3_joint ⟨Nat.le_of_ble_eq_true rfl, Nat.le_of_ble_eq_true rfl⟩ hK hP 0 rfl rfl rfl hl rfl (Nat.le_of_ble_eq_true rfl) dX3_judgeJoint_32 ⟨Nat.zero_le _, Nat.zero_le _⟩ ?_
    refine lv_if_le (tgt := 48) hx hb dX3_judgeJoint_35 (by decide) (fun c_35 => ?_) (fun c_35 => ?_)
    · have c_35 : (kX3_joint f x1) ≤ 0 := c_35
      refine lv_aload_n hx hb dX3_judgeJoint_48 rfl (lv_at hl 0 rfl) ?_
      refine lv_iload_n hx hb dX3_judgeJoint_49 rfl (lv_at hl 1 rfl) ?_
      refine lv_iload_n hx hb dX3_judgeJoint_50 rfl (lv_at hl 2 rfl) ?_
      refine lv_iload_n hx hb dX3_judgeJoint_51 rfl (lv_at hl 3 rfl) ?_
      refine k_rd (As := [.int x1, .int x2, .int x3]) (rest := []) (bytes := cX3_canHeal) (C := RX3) S (okX3_canHeal l D cI cZ cQ h a X f x1 x2 x3 (by assumption) (by assumption) (by assumption) (by assumption)) gX3_judgeJoint_X3_canHeal rfl ⟨rfl, rfl⟩ ndX3_canHeal ⟨Nat.le_of_ble_eq_true rfl, Nat.le_of_ble_eq_true rfl⟩ hK hP 0 rfl rfl rfl hl rfl (Nat.le_of_ble_eq_true rfl) dX3_judgeJoint_52 ⟨Nat.zero_le _, Nat.zero_le _⟩ ?_
      refine lv_if_eq (tgt := 65) hx hb dX3_judgeJoint_55 (by decide) (fun c_55 => ?_) (fun c_55 => ?_)
      · have c_55 : (kX3_canHeal f x1 x2 x3) = 0 := c_55
        have hρ : kX3_judgeJoint f x1 x2 x3 = f := (if_pos c_7).trans ((if_pos c_35).trans ((if_pos c_55)))
        exact e_wv hx hb hr hlk hK hP hD hS dX3_judgeJoint_65 (congrArg (fun z => (LW cI h a z ++ X)) hρ).symm
      have c_55 : ¬ ((kX3_canHeal f x1 x2 x3) = 0) := c_55
      refine lv_aload_n hx hb dX3_judgeJoint_58 rfl (lv_at hl 0 rfl) ?_
      refine lv_iload_n hx hb dX3_judgeJoint_59 rfl (lv_at hl 1 rfl) ?_
      refine lv_iload_n hx hb dX3_judgeJoint_60 rfl (lv_at hl 2 rfl) ?_
      refine lv_iload_n hx hb dX3_judgeJoint_61 rfl (lv_at hl 3 rfl) ?_
      refine k_wv (As := [.int x1, .int x2, .int x3]) (rest := []) (bytes := cX3_heal) (C := RX3) S (okX3_heal l D cI cZ cQ h a X f x1 x2 x3 _ (by assumption) (by assumption) (by assumption)) gX3_judgeJoint_X3_heal rfl ⟨rfl, rfl⟩ ndX3_heal ⟨Nat.le_of_ble_eq_true rfl, Nat.le_of_ble_eq_true rfl⟩ hK hP hD hS hA 0 rfl rfl rfl hl rfl (Nat.le_of_ble_eq_true rfl) dX3_judgeJoint_62 ⟨Nat.zero_le _, Nat.zero_le _⟩ (fun H locs hP hD hS => ?_)
      have hP : va_P D vwCl (LW cI h a (kX3_heal f x1 x2 x3) ++ X) H := hP
      have hD : va_D A (LW cI h a (kX3_heal f x1 x2 x3) ++ X) := hD
      have hρ : kX3_judgeJoint f x1 x2 x3 = (kX3_heal f x1 x2 x3) := (if_pos c_7).trans ((if_pos c_35).trans ((if_neg c_55)))
      exact e_wv hx hb hr hlk hK hP hD hS dX3_judgeJoint_65 (congrArg (fun z => (LW cI h a z ++ X)) hρ).symm
    have c_35 : ¬ ((kX3_joint f x1) ≤ 0) := c_35
    refine lv_aload_n hx hb dX3_judgeJoint_38 rfl (lv_at hl 0 rfl) ?_
    refine va_get (v := .ref (a 10)) (C := RX3) (T := TX3) (N := 15) (ci := 3) hx hb hts hinX3 hown hK hP 0 rfl rfl 10 (by decide) (hts (.fieldLink RX3 33 "AxleKeeper$Line" "sweptOver" "[I") (by decide +kernel)) (fun _ h9 => h9) rfl dX3_judgeJoint_39 ?_
    refine lv_iload_n hx hb dX3_judgeJoint_42 rfl (lv_at hl 1 rfl) ?_
    refine lv_iconst (v := 1) hx hb dX3_judgeJoint_43 (by decide) ?_
    refine st_L10 (x := 1) hx hb hK hP hD hS (by assumption) dX3_judgeJoint_44 (fun H locs hP hD hS => ?_)
    refine lv_goto (tgt := 65) hx hb dX3_judgeJoint_45 (by decide) ?_
    have hρ : kX3_judgeJoint f x1 x2 x3 = (up2 f 10 (ix x1) 1) := (if_pos c_7).trans ((if_neg c_35))
    exact e_wv hx hb hr hlk hK hP hD hS dX3_judgeJoint_65 (congrArg (fun z => (LW cI h a z ++ X)) hρ).symm
  have c_7 : ¬ ((f 12 (ix x2)) = 2) := c_7
  refine lv_aload_n hx hb dX3_judgeJoint_10 rfl (lv_at hl 0 rfl) ?_
  refine va_get (v := .ref (a 12)) (C := RX3) (T := TX3) (N := 15) (ci := 3) hx hb hts hinX3 hown hK hP 0 rfl rfl 12 (by decide) (hts (.fieldLink RX3 39 "AxleKeeper$Line" "call" "[I") (by decide +kernel)) (fun _ h9 => h9) rfl dX3_judgeJoint_11 ?_
  refine lv_iload_n hx hb dX3_judgeJoint_14 rfl (lv_at hl 3 rfl) ?_
  refine va_iald hx hb hK hP 10 0 rfl rfl (n := 6) (by assumption) dX3_judgeJoint_15 ?_
  refine lv_iconst (v := 2) hx hb dX3_judgeJoint_16 (by decide) ?_
  refine lv_icmp_eq (tgt := 30) hx hb dX3_judgeJoint_17 (by decide) (fun c_17 => ?_) (fun c_17 => ?_)
  · have c_17 : (f 12 (ix x3)) = 2 := c_17
    refine lv_aload_n hx hb dX3_judgeJoint_30 rfl (lv_at hl 0 rfl) ?_
    refine lv_iload_n hx hb dX3_judgeJoint_31 rfl (lv_at hl 1 rfl) ?_
    refine k_rd (As := [.int x1]) (rest := []) (bytes := cX3_joint) (C := RX3) S (okX3_joint l D cI cZ cQ h a X f x1 (by assumption)) gX3_judgeJoint_X3_joint rfl ⟨rfl, rfl⟩ ndX3_joint ⟨Nat.le_of_ble_eq_true rfl, Nat.le_of_ble_eq_true rfl⟩ hK hP 0 rfl rfl rfl hl rfl (Nat.le_of_ble_eq_true rfl) dX3_judgeJoint_32 ⟨Nat.zero_le _, Nat.zero_le _⟩ ?_
    refine lv_if_le (tgt := 48) hx hb dX3_judgeJoint_35 (by decide) (fun c_35 => ?_) (fun c_35 => ?_)
    · have c_35 : (kX3_joint f x1) ≤ 0 := c_35
      refine lv_aload_n hx hb dX3_judgeJoint_48 rfl (lv_at hl 0 rfl) ?_
      refine lv_iload_n hx hb dX3_judgeJoint_49 rfl (lv_at hl 1 rfl) ?_
      refine lv_iload_n hx hb dX3_judgeJoint_50 rfl (lv_at hl 2 rfl) ?_
      refine lv_iload_n hx hb dX3_judgeJoint_51 rfl (lv_at hl 3 rfl) ?_
      refine k_rd (As := [.int x1, .int x2, .int x3]) (rest := []) (bytes := cX3_canHeal) (C := RX3) S (okX3_canHeal l D cI cZ cQ h a X f x1 x2 x3 (by assumption) (by assumption) (by assumption) (by assumption)) gX3_judgeJoint_X3_canHeal rfl ⟨rfl, rfl⟩ ndX3_canHeal ⟨Nat.le_of_ble_eq_true rfl, Nat.le_of_ble_eq_true rfl⟩ hK hP 0 rfl rfl rfl hl rfl (Nat.le_of_ble_eq_true rfl) dX3_judgeJoint_52 ⟨Nat.zero_le _, Nat.zero_le _⟩ ?_
      refine lv_if_eq (tgt := 65) hx hb dX3_judgeJoint_55 (by decide) (fun c_55 => ?_) (fun c_55 => ?_)
      · have c_55 : (kX3_canHeal f x1 x2 x3) = 0 := c_55
        have hρ : kX3_judgeJoint f x1 x2 x3 = f := (if_neg c_7).trans ((if_pos c_17).trans ((if_pos c_35).trans ((if_pos c_55))))
        exact e_wv hx hb hr hlk hK hP hD hS dX3_judgeJoint_65 (congrArg (fun z => (LW cI h a z ++ X)) hρ).symm
      have c_55 : ¬ ((kX3_canHeal f x1 x2 x3) = 0) := c_55
      refine lv_aload_n hx hb dX3_judgeJoint_58 rfl (lv_at hl 0 rfl) ?_
      refine lv_iload_n hx hb dX3_judgeJoint_59 rfl (lv_at hl 1 rfl) ?_
      refine lv_iload_n hx hb dX3_judgeJoint_60 rfl (lv_at hl 2 rfl) ?_
      refine lv_iload_n hx hb dX3_judgeJoint_61 rfl (lv_at hl 3 rfl) ?_
      refine k_wv (As := [.int x1, .int x2, .int x3]) (rest := []) (bytes := cX3_heal) (C := RX3) S (okX3_heal l D cI cZ cQ h a X f x1 x2 x3 _ (by assumption) (by assumption) (by assumption)) gX3_judgeJoint_X3_heal rfl ⟨rfl, rfl⟩ ndX3_heal ⟨Nat.le_of_ble_eq_true rfl, Nat.le_of_ble_eq_true rfl⟩ hK hP hD hS hA 0 rfl rfl rfl hl rfl (Nat.le_of_ble_eq_true rfl) dX3_judgeJoint_62 ⟨Nat.zero_le _, Nat.zero_le _⟩ (fun H locs hP hD hS => ?_)
      have hP : va_P D vwCl (LW cI h a (kX3_heal f x1 x2 x3) ++ X) H := hP
      have hD : va_D A (LW cI h a (kX3_heal f x1 x2 x3) ++ X) := hD
      have hρ : kX3_judgeJoint f x1 x2 x3 = (kX3_heal f x1 x2 x3) := (if_neg c_7).trans ((if_pos c_17).trans ((if_pos c_35).trans ((if_neg c_55))))
      exact e_wv hx hb hr hlk hK hP hD hS dX3_judgeJoint_65 (congrArg (fun z => (LW cI h a z ++ X)) hρ).symm
    have c_35 : ¬ ((kX3_joint f x1) ≤ 0) := c_35
    refine lv_aload_n hx hb dX3_judgeJoint_38 rfl (lv_at hl 0 rfl) ?_
    refine va_get (v := .ref (a 10)) (C := RX3) (T := TX3) (N := 15) (ci := 3) hx hb hts hinX3 hown hK hP 0 rfl rfl 10 (by decide) (hts (.fieldLink RX3 33 "AxleKeeper$Line" "sweptOver" "[I") (by decide +kernel)) (fun _ h9 => h9) rfl dX3_judgeJoint_39 ?_
    refine lv_iload_n hx hb dX3_judgeJoint_42 rfl (lv_at hl 1 rfl) ?_
    refine lv_iconst (v := 1) hx hb dX3_judgeJoint_43 (by decide) ?_
    refine st_L10 (x := 1) hx hb hK hP hD hS (by assumption) dX3_judgeJoint_44 (fun H locs hP hD hS => ?_)
    refine lv_goto (tgt := 65) hx hb dX3_judgeJoint_45 (by decide) ?_
    have hρ : kX3_judgeJoint f x1 x2 x3 = (up2 f 10 (ix x1) 1) := (if_neg c_7).trans ((if_pos c_17).trans ((if_neg c_35)))
    exact e_wv hx hb hr hlk hK hP hD hS dX3_judgeJoint_65 (congrArg (fun z => (LW cI h a z ++ X)) hρ).symm
  have c_17 : ¬ ((f 12 (ix x3)) = 2) := c_17
  refine lv_aload_n hx hb dX3_judgeJoint_20 rfl (lv_at hl 0 rfl) ?_
  refine va_get (v := .ref (a 10)) (C := RX3) (T := TX3) (N := 15) (ci := 3) hx hb hts hinX3 hown hK hP 0 rfl rfl 10 (by decide) (hts (.fieldLink RX3 33 "AxleKeeper$Line" "sweptOver" "[I") (by decide +kernel)) (fun _ h9 => h9) rfl dX3_judgeJoint_21 ?_
  refine lv_iload_n hx hb dX3_judgeJoint_24 rfl (lv_at hl 1 rfl) ?_
  refine lv_iconst (v := 0) hx hb dX3_judgeJoint_25 (by decide) ?_
  refine st_L10 (x := 0) hx hb hK hP hD hS (by assumption) dX3_judgeJoint_26 (fun H locs hP hD hS => ?_)
  refine lv_goto (tgt := 65) hx hb dX3_judgeJoint_27 (by decide) ?_
  have hρ : kX3_judgeJoint f x1 x2 x3 = (up2 f 10 (ix x1) 0) := (if_neg c_7).trans ((if_neg c_17))
  exact e_wv hx hb hr hlk hK hP hD hS dX3_judgeJoint_65 (congrArg (fun z => (LW cI h a z ++ X)) hρ).symm
theorem ndX3_awaitSweep : yX3_awaitSweep.cls = RX3 ∧ yX3_awaitSweep.cls ≠ "java/lang/invoke/MethodHandle" ∧ yX3_awaitSweep.cls ≠ "java/lang/invoke/VarHandle" ∧ (parseMethodDescriptor yX3_awaitSweep.desc).map (fun d => d.parameters.length) = some 1 := by decide +kernel
set_option maxHeartbeats 4000000 in
set_option maxRecDepth 100000 in
theorem okX3_awaitSweep (l : Launch) (D : va_G) (cI cZ cQ : ClassId) (h : Nat) (a : Nat → Nat) (X : va_W) (f : Nat → Nat → Int32) (x1 : Int32) (sz : Nat) (h1 : vp_in x1 6) : Met l yX3_awaitSweep wsX3_awaitSweep ({ frames := 0, cells := 0, slots := 0, locals := 0 }) (PW [.ref h, .int x1] sz D (TY cI cZ cQ) (LW cI h a f ++ X)) (QV D (TY cI cZ cQ) (LW cI h a (kX3_awaitSweep f x1) ++ X) (va_A (LW cI h a f ++ X) sz)) 0 0 (va_A (LW cI h a f ++ X) sz) := by
  refine m_wr (cc := cX3_awaitSweep) (maxL := 2) (ret := none) (by decide) rfl (Nat.le_of_ble_eq_true rfl) (lv0 := [(0, .ref h), (1, .int x1)]) rfl ?_
  intro p e s m below meth c ls A hAe S hr hlk hP hK hD hS hA hl
  rw [← hAe]
  have S : CallFix p m c cX3_awaitSweep 2 s ([.ref h, .int x1] : List Value).toArray wsX3_awaitSweep RX3 := S
  have hx := S.1
  have hb := S.2.1
  have hown : s.vm.findClass RX3 = some m.cls := S.2.2.2.1
  have hts := S.2.2.2.2
  have hinX3 : ∀ w ∈ wsX30, w ∈ wsX3_awaitSweep := by decide +kernel
  refine lv_aload_n hx hb dX3_awaitSweep_0 rfl (lv_at hl 0 rfl) ?_
  refine va_get (v := .ref (a 11)) (C := RX3) (T := TX3) (N := 15) (ci := 3) hx hb hts hinX3 hown hK hP 0 rfl rfl 11 (by decide) (hts (.fieldLink RX3 36 "AxleKeeper$Line" "sum" "[I") (by decide +kernel)) (fun _ h9 => h9) rfl dX3_awaitSweep_1 ?_
  refine lv_iload_n hx hb dX3_awaitSweep_4 rfl (lv_at hl 1 rfl) ?_
  refine lv_iconst (v := 0) hx hb dX3_awaitSweep_5 (by decide) ?_
  refine st_L11 (x := 0) hx hb hK hP hD hS (by assumption) dX3_awaitSweep_6 (fun H locs hP hD hS => ?_)
  refine lv_aload_n hx hb dX3_awaitSweep_7 rfl (lv_at hl 0 rfl) ?_
  refine va_get (v := .ref (a 12)) (C := RX3) (T := TX3) (N := 15) (ci := 3) hx hb hts hinX3 hown hK hP 0 rfl rfl 12 (by decide) (hts (.fieldLink RX3 39 "AxleKeeper$Line" "call" "[I") (by decide +kernel)) (fun _ h9 => h9) rfl dX3_awaitSweep_8 ?_
  refine lv_iload_n hx hb dX3_awaitSweep_11 rfl (lv_at hl 1 rfl) ?_
  refine lv_iconst (v := 3) hx hb dX3_awaitSweep_12 (by decide) ?_
  refine st_L12 (x := 3) hx hb hK hP hD hS (by assumption) dX3_awaitSweep_13 (fun H locs hP hD hS => ?_)
  refine lv_aload_n hx hb dX3_awaitSweep_14 rfl (lv_at hl 0 rfl) ?_
  refine va_get (v := .ref (a 13)) (C := RX3) (T := TX3) (N := 15) (ci := 3) hx hb hts hinX3 hown hK hP 0 rfl rfl 13 (by decide) (hts (.fieldLink RX3 42 "AxleKeeper$Line" "entered" "[I") (by decide +kernel)) (fun _ h9 => h9) rfl dX3_awaitSweep_15 ?_
  refine lv_iload_n hx hb dX3_awaitSweep_18 rfl (lv_at hl 1 rfl) ?_
  refine lv_iconst (v := 0) hx hb dX3_awaitSweep_19 (by decide) ?_
  refine st_L13 (x := 0) hx hb hK hP hD hS (by assumption) dX3_awaitSweep_20 (fun H locs hP hD hS => ?_)
  have hρ : kX3_awaitSweep f x1 = (up2 (up2 (up2 f 11 (ix x1) 0) 12 (ix x1) 3) 13 (ix x1) 0) := rfl
  exact e_wv hx hb hr hlk hK hP hD hS dX3_awaitSweep_21 (congrArg (fun z => (LW cI h a z ++ X)) hρ).symm
theorem ndX3_pass : yX3_pass.cls = RX3 ∧ yX3_pass.cls ≠ "java/lang/invoke/MethodHandle" ∧ yX3_pass.cls ≠ "java/lang/invoke/VarHandle" ∧ (parseMethodDescriptor yX3_pass.desc).map (fun d => d.parameters.length) = some 1 := by decide +kernel
set_option maxHeartbeats 4000000 in
set_option maxRecDepth 100000 in
theorem lpX3_pass_28 {p : Program} {e : Env} {s : State} {m : MethodId} {below : List Frame} {meth : Method} {c : Code} (l : Launch) (D : va_G) (cI cZ cQ : ClassId) (h : Nat) (a : Nat → Nat) (X : va_W) (x1 : Int32) (A : Nat → Prop) (hA : ∀ q, s.heap.size ≤ q → A q) (S : CallFix p m c cX3_pass 3 s ([.ref h, .int x1] : List Value).toArray wsX3_pass RX3) (hr : meth.sig.returnType = none) (hlk : meth.locks = false) (hK : va_K D vwCl (TY cI cZ cQ) s)  : ∀ (n i : Nat) (f : Nat → Nat → Int32) (H : Heap) (locs : List Loc), i ≤ 7 → 7 - i < n → (hok : okL f) → va_P D vwCl (LW cI h a f ++ X) H → va_D A (LW cI h a f ++ X) → va_S A s.heap H locs → ∀ {ls : Array Slot}, lv_has ls 3 [(0, .ref h), (1, .int x1), (2, .int (nI i))] → ∀ ρ : (Nat → Nat → Int32), ρ = kX3_pass_28 x1 n i f → W p l e { frames := 4, cells := 0, slots := 0, locals := 90 } s m ([.ref h, .int x1] : List Value).toArray below meth c H locs 0 0 (MQ below (QV D (TY cI cZ cQ) (LW cI h a ρ ++ X) A) ([.ref h, .int x1] : List Value).toArray s 0 0 A) (F0 m 28 ls []) := by
  have hx := S.1
  have hb := S.2.1
  have hown : s.vm.findClass RX3 = some m.cls := S.2.2.2.1
  have hts := S.2.2.2.2
  have hinX3 : ∀ w ∈ wsX30, w ∈ wsX3_pass := by decide +kernel
  intro n
  induction n with
  | zero =>
    intro i _ _ _ hi hn
    exact absurd hn (Nat.not_lt_zero _)
  | succ n ih =>
    intro i  f H locs hi hn hok hP hD hS ls hl ρ hρ0
    refine lv_iload_n hx hb dX3_pass_28 rfl (lv_at hl 2 rfl) ?_
    refine lv_aload_n hx hb dX3_pass_29 rfl (lv_at hl 0 rfl) ?_
    refine k_rd (As := []) (rest := [.int (nI i)]) (bytes := cX3_heads) (C := RX3) S (okX3_heads l D cI cZ cQ h a X f ) gX3_pass_X3_heads rfl ⟨rfl, rfl⟩ ndX3_heads ⟨Nat.le_of_ble_eq_true rfl, Nat.le_of_ble_eq_true rfl⟩ hK hP 0 rfl rfl rfl hl rfl (Nat.le_of_ble_eq_true rfl) dX3_pass_30 ⟨Nat.zero_le _, Nat.zero_le _⟩ ?_
    refine lv_icmp_ge (tgt := 65) hx hb dX3_pass_33 (by decide) (fun c_33 => ?_) (fun c_33 => ?_)
    · have c_33 : (kX3_heads f) ≤ (nI i) := c_33
      refine lv_aload_n hx hb dX3_pass_65 rfl (lv_at hl 0 rfl) ?_
      refine va_get (v := .int (f 2 0)) (C := RX3) (T := TX3) (N := 15) (ci := 3) hx hb hts hinX3 hown hK hP 0 rfl rfl 2 (by decide) (hts (.fieldLink RX3 56 "AxleKeeper$Line" "ticks" "I") (by decide +kernel)) (fun _ h9 => h9) rfl dX3_pass_66 ?_
      refine lv_sipush (v := 9999) hx hb dX3_pass_69 (by decide) ?_
      refine lv_icmp_ge (tgt := 85) hx hb dX3_pass_72 (by decide) (fun c_72 => ?_) (fun c_72 => ?_)
      · have c_72 : 9999 ≤ (f 2 0) := c_72
        have hρ : kX3_pass_28 x1 (n + 1) i f = f := (if_pos c_33).trans ((if_pos c_72))
        have hρ := hρ0.trans hρ
        exact e_wv hx hb hr hlk hK hP hD hS dX3_pass_85 (congrArg (fun z => (LW cI h a z ++ X)) hρ).symm
      have c_72 : ¬ (9999 ≤ (f 2 0)) := c_72
      refine lv_aload_n hx hb dX3_pass_75 rfl (lv_at hl 0 rfl) ?_
      refine lv_dup hx hb dX3_pass_76 rfl ?_
      refine va_get (v := .int (f 2 0)) (C := RX3) (T := TX3) (N := 15) (ci := 3) hx hb hts hinX3 hown hK hP 0 rfl rfl 2 (by decide) (hts (.fieldLink RX3 56 "AxleKeeper$Line" "ticks" "I") (by decide +kernel)) (fun _ h9 => h9) rfl dX3_pass_77 ?_
      refine lv_iconst (v := 1) hx hb dX3_pass_80 (by decide) ?_
      refine lv_iadd hx hb dX3_pass_81 ?_
      refine pf_L2 (x := ((f 2 0) + 1)) S hinX3 hK hP hD hS (hts (.fieldLink RX3 56 "AxleKeeper$Line" "ticks" "I") (by decide +kernel)) dX3_pass_82 (fun H locs hP hD hS => ?_)
      have hρ : kX3_pass_28 x1 (n + 1) i f = (up2 f 2 0 ((f 2 0) + 1)) := (if_pos c_33).trans ((if_neg c_72))
      have hρ := hρ0.trans hρ
      exact e_wv hx hb hr hlk hK hP hD hS dX3_pass_85 (congrArg (fun z => (LW cI h a z ++ X)) hρ).symm
    have c_33 : ¬ ((kX3_heads f) ≤ (nI i)) := c_33
    have hlt : i < 7 := il_lt (heads_le hok) (by decide) hi c_33
    have hvi : vp_in (nI i) 7 := vp_in_nI hlt (by decide)
    refine lv_aload_n hx hb dX3_pass_36 rfl (lv_at hl 0 rfl) ?_
    refine lv_iload_n hx hb dX3_pass_37 rfl (lv_at hl 2 rfl) ?_
    refine k_rd (As := [.int (nI i)]) (rest := []) (bytes := cX3_joins) (C := RX3) S (okX3_joins l D cI cZ cQ h a X f (nI i)) gX3_pass_X3_joins rfl ⟨rfl, rfl⟩ ndX3_joins ⟨Nat.le_of_ble_eq_true rfl, Nat.le_of_ble_eq_true rfl⟩ hK hP 0 rfl rfl rfl hl rfl (Nat.le_of_ble_eq_true rfl) dX3_pass_38 ⟨Nat.zero_le _, Nat.zero_le _⟩ ?_
    refine lv_if_eq (tgt := 59) hx hb dX3_pass_41 (by decide) (fun c_41 => ?_) (fun c_41 => ?_)
    · have c_41 : (kX3_joins f (nI i)) = 0 := c_41
      refine lv_iinc (v := (nI (i + 1))) (lv' := [(2, .int (nI (i + 1))), (0, .ref h), (1, .int x1)]) hx hb dX3_pass_59 hl (k := 2) rfl (nI_1 i) (by decide) rfl (fun ls hl => ?_)
      refine lv_goto (tgt := 28) hx hb dX3_pass_62 (by decide) ?_
      have hρ : kX3_pass_28 x1 (n + 1) i f = kX3_pass_28 x1 n (i + 1) f := (if_neg c_33).trans ((if_pos c_41))
      have hρ := hρ0.trans hρ
      exact ih  (i + 1)  f _ _ (by omega) (by omega) (by first | exact hok | exact ok_judgeJoint hok) hP hD hS (lv_sub hl [1, 2, 0] rfl) _ hρ
    have c_41 : ¬ ((kX3_joins f (nI i)) = 0) := c_41
    have hv2 : vp_in (kX3_leftOf f (nI i)) 6 := (joins_in hok c_41).1
    have hv3 : vp_in (kX3_rightOf f (nI i)) 6 := (joins_in hok c_41).2
    refine lv_aload_n hx hb dX3_pass_44 rfl (lv_at hl 0 rfl) ?_
    refine lv_iload_n hx hb dX3_pass_45 rfl (lv_at hl 2 rfl) ?_
    refine lv_aload_n hx hb dX3_pass_46 rfl (lv_at hl 0 rfl) ?_
    refine lv_iload_n hx hb dX3_pass_47 rfl (lv_at hl 2 rfl) ?_
    refine k_rd (As := [.int (nI i)]) (rest := [.int (nI i), .ref h]) (bytes := cX3_leftOf) (C := RX3) S (okX3_leftOf l D cI cZ cQ h a X f (nI i)) gX3_pass_X3_leftOf rfl ⟨rfl, rfl⟩ ndX3_leftOf ⟨Nat.le_of_ble_eq_true rfl, Nat.le_of_ble_eq_true rfl⟩ hK hP 0 rfl rfl rfl hl rfl (Nat.le_of_ble_eq_true rfl) dX3_pass_48 ⟨Nat.zero_le _, Nat.zero_le _⟩ ?_
    refine lv_aload_n hx hb dX3_pass_51 rfl (lv_at hl 0 rfl) ?_
    refine lv_iload_n hx hb dX3_pass_52 rfl (lv_at hl 2 rfl) ?_
    refine k_rd (As := [.int (nI i)]) (rest := [.int (kX3_leftOf f (nI i)), .int (nI i), .ref h]) (bytes := cX3_rightOf) (C := RX3) S (okX3_rightOf l D cI cZ cQ h a X f (nI i)) gX3_pass_X3_rightOf rfl ⟨rfl, rfl⟩ ndX3_rightOf ⟨Nat.le_of_ble_eq_true rfl, Nat.le_of_ble_eq_true rfl⟩ hK hP 0 rfl rfl rfl hl rfl (Nat.le_of_ble_eq_true rfl) dX3_pass_53 ⟨Nat.zero_le _, Nat.zero_le _⟩ ?_
    refine k_wv (As := [.int (nI i), .int (kX3_leftOf f (nI i)), .int (kX3_rightOf f (nI i))]) (rest := []) (bytes := cX3_judgeJoint) (C := RX3) S (okX3_judgeJoint l D cI cZ cQ h a X f (nI i) (kX3_leftOf f (nI i)) (kX3_rightOf f (nI i)) _ (by assumption) (by assumption) (by assumption) (by assumption)) gX3_pass_X3_judgeJoint rfl ⟨rfl, rfl⟩ ndX3_judgeJoint ⟨Nat.le_of_ble_eq_true rfl, Nat.le_of_ble_eq_true rfl⟩ hK hP hD hS hA 0 rfl rfl rfl hl rfl (Nat.le_of_ble_eq_true rfl) dX3_pass_56 ⟨Nat.zero_le _, Nat.zero_le _⟩ (fun H locs hP hD hS => ?_)
    have hP : va_P D vwCl (LW cI h a (kX3_judgeJoint f (nI i) (kX3_leftOf f (nI i)) (kX3_rightOf f (nI i))) ++ X) H := hP
    have hD : va_D A (LW cI h a (kX3_judgeJoint f (nI i) (kX3_leftOf f (nI i)) (kX3_rightOf f (nI i))) ++ X) := hD
    refine lv_iinc (v := (nI (i + 1))) (lv' := [(2, .int (nI (i + 1))), (0, .ref h), (1, .int x1)]) hx hb dX3_pass_59 hl (k := 2) rfl (nI_1 i) (by decide) rfl (fun ls hl => ?_)
    refine lv_goto (tgt := 28) hx hb dX3_pass_62 (by decide) ?_
    have hρ : kX3_pass_28 x1 (n + 1) i f = kX3_pass_28 x1 n (i + 1) (kX3_judgeJoint f (nI i) (kX3_leftOf f (nI i)) (kX3_rightOf f (nI i))) := (if_neg c_33).trans ((if_neg c_41))
    have hρ := hρ0.trans hρ
    exact ih  (i + 1)  (kX3_judgeJoint f (nI i) (kX3_leftOf f (nI i)) (kX3_rightOf f (nI i))) _ _ (by omega) (by omega) (by first | exact hok | exact ok_judgeJoint hok) hP hD hS (lv_sub hl [1, 2, 0] rfl) _ hρ
set_option maxHeartbeats 4000000 in
set_option maxRecDepth 100000 in
theorem lpX3_pass_7 {p : Program} {e : Env} {s : State} {m : MethodId} {below : List Frame} {meth : Method} {c : Code} (l : Launch) (D : va_G) (cI cZ cQ : ClassId) (h : Nat) (a : Nat → Nat) (X : va_W) (x1 : Int32) (A : Nat → Prop) (hA : ∀ q, s.heap.size ≤ q → A q) (S : CallFix p m c cX3_pass 3 s ([.ref h, .int x1] : List Value).toArray wsX3_pass RX3) (hr : meth.sig.returnType = none) (hlk : meth.locks = false) (hK : va_K D vwCl (TY cI cZ cQ) s)  : ∀ (n i : Nat) (f : Nat → Nat → Int32) (H : Heap) (locs : List Loc), i ≤ 6 → 6 - i < n → (hok : okL f) → va_P D vwCl (LW cI h a f ++ X) H → va_D A (LW cI h a f ++ X) → va_S A s.heap H locs → ∀ {ls : Array Slot}, lv_has ls 3 [(0, .ref h), (1, .int x1), (2, .int (nI i))] → ∀ ρ : (Nat → Nat → Int32), ρ = kX3_pass_7 x1 n i f → W p l e { frames := 4, cells := 0, slots := 0, locals := 90 } s m ([.ref h, .int x1] : List Value).toArray below meth c H locs 0 0 (MQ below (QV D (TY cI cZ cQ) (LW cI h a ρ ++ X) A) ([.ref h, .int x1] : List Value).toArray s 0 0 A) (F0 m 7 ls []) := by
  have hx := S.1
  have hb := S.2.1
  have hown : s.vm.findClass RX3 = some m.cls := S.2.2.2.1
  have hts := S.2.2.2.2
  have hinX3 : ∀ w ∈ wsX30, w ∈ wsX3_pass := by decide +kernel
  intro n
  induction n with
  | zero =>
    intro i _ _ _ hi hn
    exact absurd hn (Nat.not_lt_zero _)
  | succ n ih =>
    intro i  f H locs hi hn hok hP hD hS ls hl ρ hρ0
    refine lv_iload_n hx hb dX3_pass_7 rfl (lv_at hl 2 rfl) ?_
    refine lv_aload_n hx hb dX3_pass_8 rfl (lv_at hl 0 rfl) ?_
    refine va_get (v := .int (f 0 0)) (C := RX3) (T := TX3) (N := 15) (ci := 3) hx hb hts hinX3 hown hK hP 0 rfl rfl 0 (by decide) (hts (.fieldLink RX3 48 "AxleKeeper$Line" "sections" "I") (by decide +kernel)) (fun _ h9 => h9) rfl dX3_pass_9 ?_
    refine lv_icmp_ge (tgt := 26) hx hb dX3_pass_12 (by decide) (fun c_12 => ?_) (fun c_12 => ?_)
    · have c_12 : (f 0 0) ≤ (nI i) := c_12
      refine lv_iconst (v := 0) hx hb dX3_pass_26 (by decide) ?_
      refine lv_istore_n (lv' := [(2, .int 0), (0, .ref h), (1, .int x1)]) hx hb dX3_pass_27 rfl hl (by decide) rfl (fun ls hl => ?_)
      have hρ : kX3_pass_7 x1 (n + 1) i f = kX3_pass_28 x1 8 0 f := (if_pos c_12)
      have hρ := hρ0.trans hρ
      exact lpX3_pass_28 l D cI cZ cQ h a X x1 A hA S hr hlk hK   8 0  f _ _ (by omega) (by omega) hok hP hD hS (lv_sub hl [1, 2, 0] rfl) _ hρ
    have c_12 : ¬ ((f 0 0) ≤ (nI i)) := c_12
    have hlt : i < 6 := il_lt hok.2 (by decide) hi c_12
    have hvi : vp_in (nI i) 6 := vp_in_nI hlt (by decide)
    refine lv_aload_n hx hb dX3_pass_15 rfl (lv_at hl 0 rfl) ?_
    refine lv_iload_n hx hb dX3_pass_16 rfl (lv_at hl 2 rfl) ?_
    refine k_wv (As := [.int (nI i)]) (rest := []) (bytes := cX3_judge) (C := RX3) S (okX3_judge l D cI cZ cQ h a X f (nI i) _ (by assumption)) gX3_pass_X3_judge rfl ⟨rfl, rfl⟩ ndX3_judge ⟨Nat.le_of_ble_eq_true rfl, Nat.le_of_ble_eq_true rfl⟩ hK hP hD hS hA 0 rfl rfl rfl hl rfl (Nat.le_of_ble_eq_true rfl) dX3_pass_17 ⟨Nat.zero_le _, Nat.zero_le _⟩ (fun H locs hP hD hS => ?_)
    have hP : va_P D vwCl (LW cI h a (kX3_judge f (nI i)) ++ X) H := hP
    have hD : va_D A (LW cI h a (kX3_judge f (nI i)) ++ X) := hD
    refine lv_iinc (v := (nI (i + 1))) (lv' := [(2, .int (nI (i + 1))), (0, .ref h), (1, .int x1)]) hx hb dX3_pass_20 hl (k := 2) rfl (nI_1 i) (by decide) rfl (fun ls hl => ?_)
    refine lv_goto (tgt := 7) hx hb dX3_pass_23 (by decide) ?_
    have hρ : kX3_pass_7 x1 (n + 1) i f = kX3_pass_7 x1 n (i + 1) (kX3_judge f (nI i)) := (if_neg c_12)
    have hρ := hρ0.trans hρ
    exact ih  (i + 1)  (kX3_judge f (nI i)) _ _ (by omega) (by omega) (ok_judge hok) hP hD hS (lv_sub hl [1, 2, 0] rfl) _ hρ
set_option maxHeartbeats 4000000 in
set_option maxRecDepth 100000 in
theorem okX3_pass (l : Launch) (D : va_G) (cI cZ cQ : ClassId) (h : Nat) (a : Nat → Nat) (X : va_W) (f : Nat → Nat → Int32) (x1 : Int32) (sz : Nat) (hok : okL f) : Met l yX3_pass wsX3_pass ({ frames := 4, cells := 0, slots := 0, locals := 90 }) (PW [.ref h, .int x1] sz D (TY cI cZ cQ) (LW cI h a f ++ X)) (QV D (TY cI cZ cQ) (LW cI h a (kX3_pass f x1) ++ X) (va_A (LW cI h a f ++ X) sz)) 0 0 (va_A (LW cI h a f ++ X) sz) := by
  refine m_wr (cc := cX3_pass) (maxL := 3) (ret := none) (by decide) rfl (Nat.le_of_ble_eq_true rfl) (lv0 := [(0, .ref h), (1, .int x1)]) rfl ?_
  intro p e s m below meth c ls A hAe S hr hlk hP hK hD hS hA hl
  rw [← hAe]
  have S : CallFix p m c cX3_pass 3 s ([.ref h, .int x1] : List Value).toArray wsX3_pass RX3 := S
  have hx := S.1
  have hb := S.2.1
  have hown : s.vm.findClass RX3 = some m.cls := S.2.2.2.1
  have hts := S.2.2.2.2
  have hinX3 : ∀ w ∈ wsX30, w ∈ wsX3_pass := by decide +kernel
  refine lv_aload_n hx hb dX3_pass_0 rfl (lv_at hl 0 rfl) ?_
  refine lv_iload_n hx hb dX3_pass_1 rfl (lv_at hl 1 rfl) ?_
  refine k_wv (As := [.int x1]) (rest := []) (bytes := cX3_hear) (C := RX3) S (okX3_hear l D cI cZ cQ h a X f x1 _ (by assumption)) gX3_pass_X3_hear rfl ⟨rfl, rfl⟩ ndX3_hear ⟨Nat.le_of_ble_eq_true rfl, Nat.le_of_ble_eq_true rfl⟩ hK hP hD hS hA 0 rfl rfl rfl hl rfl (Nat.le_of_ble_eq_true rfl) dX3_pass_2 ⟨Nat.zero_le _, Nat.zero_le _⟩ (fun H locs hP hD hS => ?_)
  have hP : va_P D vwCl (LW cI h a (kX3_hear f x1) ++ X) H := hP
  have hD : va_D A (LW cI h a (kX3_hear f x1) ++ X) := hD
  refine lv_iconst (v := 0) hx hb dX3_pass_5 (by decide) ?_
  refine lv_istore_n (lv' := [(2, .int 0), (0, .ref h), (1, .int x1)]) hx hb dX3_pass_6 rfl hl (by decide) rfl (fun ls hl => ?_)
  have hρ : kX3_pass f x1 = kX3_pass_7 x1 7 0 (kX3_hear f x1) := rfl
  exact lpX3_pass_7 l D cI cZ cQ h a X x1 A hA S hr hlk hK   7 0  (kX3_hear f x1) _ _ (by omega) (by omega) (ok_hear hok) hP hD hS (lv_sub hl [1, 2, 0] rfl) _ hρ
end
