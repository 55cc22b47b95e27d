-- ===== PART A: goes FIRST, ahead of the names: the tables' words, and 'selects' of the private methods out of them =====
/-- a private method of a class that the tables say can be made, by its rows of tables_1 -/
def lw_okq (q : MethodName × Nat) : Prop := (q.1.cls ≠ "java/lang/invoke/MethodHandle" ∧ q.1.cls ≠ "java/lang/invoke/VarHandle") ∧ Cond.instantiable q.1.cls q.2 ∈ tables_1 ∧ Cond.privateMethod q.1 ∈ tables_1 ∧ Cond.instanceMethod q.1 ∈ tables_1
theorem lw_p0 : lw_okq (⟨"AtticSweep", "empty", "(II)V"⟩, 13) := ⟨⟨by decide +kernel, by decide +kernel⟩, List.mem_of_getElem? (i := 10) (by decide +kernel), List.mem_of_getElem? (i := 121) (by decide +kernel), List.mem_of_getElem? (i := 122) (by decide +kernel)⟩
theorem lw_p1 : lw_okq (⟨"AtticSweep", "colourOfNew", "()I"⟩, 13) := ⟨⟨by decide +kernel, by decide +kernel⟩, List.mem_of_getElem? (i := 10) (by decide +kernel), List.mem_of_getElem? (i := 184) (by decide +kernel), List.mem_of_getElem? (i := 185) (by decide +kernel)⟩
theorem lw_p2 : lw_okq (⟨"AtticSweep", "placeOfNew", "(II)I"⟩, 13) := ⟨⟨by decide +kernel, by decide +kernel⟩, List.mem_of_getElem? (i := 10) (by decide +kernel), List.mem_of_getElem? (i := 188) (by decide +kernel), List.mem_of_getElem? (i := 189) (by decide +kernel)⟩
theorem lw_p3 : lw_okq (⟨"AtticSweep", "inRegister", "(II)I"⟩, 13) := ⟨⟨by decide +kernel, by decide +kernel⟩, List.mem_of_getElem? (i := 10) (by decide +kernel), List.mem_of_getElem? (i := 244) (by decide +kernel), List.mem_of_getElem? (i := 245) (by decide +kernel)⟩
theorem lw_p4 : lw_okq (⟨"AtticSweep", "refusalOfField", "(II)I"⟩, 13) := ⟨⟨by decide +kernel, by decide +kernel⟩, List.mem_of_getElem? (i := 10) (by decide +kernel), List.mem_of_getElem? (i := 256) (by decide +kernel), List.mem_of_getElem? (i := 257) (by decide +kernel)⟩
theorem lw_p5 : lw_okq (⟨"AtticSweep", "note", "(I)V"⟩, 13) := ⟨⟨by decide +kernel, by decide +kernel⟩, List.mem_of_getElem? (i := 10) (by decide +kernel), List.mem_of_getElem? (i := 270) (by decide +kernel), List.mem_of_getElem? (i := 271) (by decide +kernel)⟩
theorem lw_p6 : lw_okq (⟨"AtticSweep", "shade", "(I)V"⟩, 13) := ⟨⟨by decide +kernel, by decide +kernel⟩, List.mem_of_getElem? (i := 10) (by decide +kernel), List.mem_of_getElem? (i := 274) (by decide +kernel), List.mem_of_getElem? (i := 275) (by decide +kernel)⟩
theorem lw_p7 : lw_okq (⟨"AtticSweep", "noteWeakRead", "(I)V"⟩, 13) := ⟨⟨by decide +kernel, by decide +kernel⟩, List.mem_of_getElem? (i := 10) (by decide +kernel), List.mem_of_getElem? (i := 339) (by decide +kernel), List.mem_of_getElem? (i := 340) (by decide +kernel)⟩
theorem lw_p8 : lw_okq (⟨"AtticSweep", "startRound", "()V"⟩, 13) := ⟨⟨by decide +kernel, by decide +kernel⟩, List.mem_of_getElem? (i := 10) (by decide +kernel), List.mem_of_getElem? (i := 377) (by decide +kernel), List.mem_of_getElem? (i := 378) (by decide +kernel)⟩
theorem lw_p9 : lw_okq (⟨"AtticSweep", "shadeHeld", "()V"⟩, 13) := ⟨⟨by decide +kernel, by decide +kernel⟩, List.mem_of_getElem? (i := 10) (by decide +kernel), List.mem_of_getElem? (i := 390) (by decide +kernel), List.mem_of_getElem? (i := 391) (by decide +kernel)⟩
theorem lw_p10 : lw_okq (⟨"AtticSweep", "takeSteps", "(I)I"⟩, 13) := ⟨⟨by decide +kernel, by decide +kernel⟩, List.mem_of_getElem? (i := 10) (by decide +kernel), List.mem_of_getElem? (i := 407) (by decide +kernel), List.mem_of_getElem? (i := 408) (by decide +kernel)⟩
theorem lw_p11 : lw_okq (⟨"AtticSweep", "markStep", "()V"⟩, 13) := ⟨⟨by decide +kernel, by decide +kernel⟩, List.mem_of_getElem? (i := 10) (by decide +kernel), List.mem_of_getElem? (i := 411) (by decide +kernel), List.mem_of_getElem? (i := 412) (by decide +kernel)⟩
theorem lw_p12 : lw_okq (⟨"AtticSweep", "shadeFieldsOf", "(I)V"⟩, 13) := ⟨⟨by decide +kernel, by decide +kernel⟩, List.mem_of_getElem? (i := 10) (by decide +kernel), List.mem_of_getElem? (i := 419) (by decide +kernel), List.mem_of_getElem? (i := 420) (by decide +kernel)⟩
theorem lw_p13 : lw_okq (⟨"AtticSweep", "shadeValues", "()V"⟩, 13) := ⟨⟨by decide +kernel, by decide +kernel⟩, List.mem_of_getElem? (i := 10) (by decide +kernel), List.mem_of_getElem? (i := 423) (by decide +kernel), List.mem_of_getElem? (i := 424) (by decide +kernel)⟩
theorem lw_p14 : lw_okq (⟨"AtticSweep", "grantWishes", "()V"⟩, 13) := ⟨⟨by decide +kernel, by decide +kernel⟩, List.mem_of_getElem? (i := 10) (by decide +kernel), List.mem_of_getElem? (i := 431) (by decide +kernel), List.mem_of_getElem? (i := 432) (by decide +kernel)⟩
theorem lw_p15 : lw_okq (⟨"AtticSweep", "endMarking", "()V"⟩, 13) := ⟨⟨by decide +kernel, by decide +kernel⟩, List.mem_of_getElem? (i := 10) (by decide +kernel), List.mem_of_getElem? (i := 447) (by decide +kernel), List.mem_of_getElem? (i := 448) (by decide +kernel)⟩
def lw_privs_1 : List (MethodName × Nat) := [(⟨"AtticSweep", "empty", "(II)V"⟩, 13), (⟨"AtticSweep", "colourOfNew", "()I"⟩, 13), (⟨"AtticSweep", "placeOfNew", "(II)I"⟩, 13), (⟨"AtticSweep", "inRegister", "(II)I"⟩, 13), (⟨"AtticSweep", "refusalOfField", "(II)I"⟩, 13), (⟨"AtticSweep", "note", "(I)V"⟩, 13), (⟨"AtticSweep", "shade", "(I)V"⟩, 13), (⟨"AtticSweep", "noteWeakRead", "(I)V"⟩, 13), (⟨"AtticSweep", "startRound", "()V"⟩, 13), (⟨"AtticSweep", "shadeHeld", "()V"⟩, 13), (⟨"AtticSweep", "takeSteps", "(I)I"⟩, 13), (⟨"AtticSweep", "markStep", "()V"⟩, 13), (⟨"AtticSweep", "shadeFieldsOf", "(I)V"⟩, 13), (⟨"AtticSweep", "shadeValues", "()V"⟩, 13), (⟨"AtticSweep", "grantWishes", "()V"⟩, 13), (⟨"AtticSweep", "endMarking", "()V"⟩, 13)]
theorem lw_r1 : ∀ q ∈ lw_privs_1, lw_okq q := List.forall_mem_cons.mpr ⟨lw_p0, List.forall_mem_cons.mpr ⟨lw_p1, List.forall_mem_cons.mpr ⟨lw_p2, List.forall_mem_cons.mpr ⟨lw_p3, List.forall_mem_cons.mpr ⟨lw_p4, List.forall_mem_cons.mpr ⟨lw_p5, List.forall_mem_cons.mpr ⟨lw_p6, List.forall_mem_cons.mpr ⟨lw_p7, List.forall_mem_cons.mpr ⟨lw_p8, List.forall_mem_cons.mpr ⟨lw_p9, List.forall_mem_cons.mpr ⟨lw_p10, List.forall_mem_cons.mpr ⟨lw_p11, List.forall_mem_cons.mpr ⟨lw_p12, List.forall_mem_cons.mpr ⟨lw_p13, List.forall_mem_cons.mpr ⟨lw_p14, List.forall_mem_cons.mpr ⟨lw_p15, fun _ h => absurd h List.not_mem_nil⟩⟩⟩⟩⟩⟩⟩⟩⟩⟩⟩⟩⟩⟩⟩⟩
theorem lw_p16 : lw_okq (⟨"AtticSweep", "freeIfWhite", "(I)V"⟩, 13) := ⟨⟨by decide +kernel, by decide +kernel⟩, List.mem_of_getElem? (i := 10) (by decide +kernel), List.mem_of_getElem? (i := 455) (by decide +kernel), List.mem_of_getElem? (i := 456) (by decide +kernel)⟩
theorem lw_p17 : lw_okq (⟨"AtticSweep", "endRound", "()V"⟩, 13) := ⟨⟨by decide +kernel, by decide +kernel⟩, List.mem_of_getElem? (i := 10) (by decide +kernel), List.mem_of_getElem? (i := 463) (by decide +kernel), List.mem_of_getElem? (i := 464) (by decide +kernel)⟩
theorem lw_p18 : lw_okq (⟨"AtticSweep", "sweepStep", "()V"⟩, 13) := ⟨⟨by decide +kernel, by decide +kernel⟩, List.mem_of_getElem? (i := 10) (by decide +kernel), List.mem_of_getElem? (i := 467) (by decide +kernel), List.mem_of_getElem? (i := 468) (by decide +kernel)⟩
theorem lw_p19 : lw_okq (⟨"AtticSweep", "isReached", "(I)Z"⟩, 13) := ⟨⟨by decide +kernel, by decide +kernel⟩, List.mem_of_getElem? (i := 10) (by decide +kernel), List.mem_of_getElem? (i := 493) (by decide +kernel), List.mem_of_getElem? (i := 494) (by decide +kernel)⟩
theorem lw_p20 : lw_okq (⟨"AtticSweep$Reach", "forget", "()V"⟩, 3) := ⟨⟨by decide +kernel, by decide +kernel⟩, List.mem_of_getElem? (i := 105) (by decide +kernel), List.mem_of_getElem? (i := 501) (by decide +kernel), List.mem_of_getElem? (i := 502) (by decide +kernel)⟩
theorem lw_p21 : lw_okq (⟨"AtticSweep$Reach", "add", "(I)V"⟩, 3) := ⟨⟨by decide +kernel, by decide +kernel⟩, List.mem_of_getElem? (i := 105) (by decide +kernel), List.mem_of_getElem? (i := 506) (by decide +kernel), List.mem_of_getElem? (i := 507) (by decide +kernel)⟩
theorem lw_p22 : lw_okq (⟨"AtticSweep$Reach", "addValues", "(LAtticSweep$Pairs;)V"⟩, 3) := ⟨⟨by decide +kernel, by decide +kernel⟩, List.mem_of_getElem? (i := 105) (by decide +kernel), List.mem_of_getElem? (i := 510) (by decide +kernel), List.mem_of_getElem? (i := 511) (by decide +kernel)⟩
theorem lw_p23 : lw_okq (⟨"AtticSweep$Reach", "addFields", "(LAtticSweep$Things;I)V"⟩, 3) := ⟨⟨by decide +kernel, by decide +kernel⟩, List.mem_of_getElem? (i := 105) (by decide +kernel), List.mem_of_getElem? (i := 520) (by decide +kernel), List.mem_of_getElem? (i := 521) (by decide +kernel)⟩
theorem lw_p24 : lw_okq (⟨"AtticSweep", "countByReach", "(I)I"⟩, 13) := ⟨⟨by decide +kernel, by decide +kernel⟩, List.mem_of_getElem? (i := 10) (by decide +kernel), List.mem_of_getElem? (i := 555) (by decide +kernel), List.mem_of_getElem? (i := 556) (by decide +kernel)⟩
theorem lw_p25 : lw_okq (⟨"AtticSweepModel", "empties", "()V"⟩, 30) := ⟨⟨by decide +kernel, by decide +kernel⟩, List.mem_of_getElem? (i := 586) (by decide +kernel), List.mem_of_getElem? (i := 592) (by decide +kernel), List.mem_of_getElem? (i := 593) (by decide +kernel)⟩
theorem lw_p26 : lw_okq (⟨"AtticSweepModel", "shadeHeld", "()V"⟩, 30) := ⟨⟨by decide +kernel, by decide +kernel⟩, List.mem_of_getElem? (i := 586) (by decide +kernel), List.mem_of_getElem? (i := 698) (by decide +kernel), List.mem_of_getElem? (i := 699) (by decide +kernel)⟩
theorem lw_p27 : lw_okq (⟨"AtticSweepModel", "shade", "(I)V"⟩, 30) := ⟨⟨by decide +kernel, by decide +kernel⟩, List.mem_of_getElem? (i := 586) (by decide +kernel), List.mem_of_getElem? (i := 702) (by decide +kernel), List.mem_of_getElem? (i := 703) (by decide +kernel)⟩
theorem lw_p28 : lw_okq (⟨"AtticSweepModel", "step", "()V"⟩, 30) := ⟨⟨by decide +kernel, by decide +kernel⟩, List.mem_of_getElem? (i := 586) (by decide +kernel), List.mem_of_getElem? (i := 706) (by decide +kernel), List.mem_of_getElem? (i := 707) (by decide +kernel)⟩
theorem lw_p29 : lw_okq (⟨"AtticSweepModel", "marks", "()V"⟩, 30) := ⟨⟨by decide +kernel, by decide +kernel⟩, List.mem_of_getElem? (i := 586) (by decide +kernel), List.mem_of_getElem? (i := 710) (by decide +kernel), List.mem_of_getElem? (i := 711) (by decide +kernel)⟩
theorem lw_p30 : lw_okq (⟨"AtticSweepModel", "leastGray", "()I"⟩, 30) := ⟨⟨by decide +kernel, by decide +kernel⟩, List.mem_of_getElem? (i := 586) (by decide +kernel), List.mem_of_getElem? (i := 714) (by decide +kernel), List.mem_of_getElem? (i := 715) (by decide +kernel)⟩
theorem lw_p31 : lw_okq (⟨"AtticSweepModel", "findsMore", "()Z"⟩, 30) := ⟨⟨by decide +kernel, by decide +kernel⟩, List.mem_of_getElem? (i := 586) (by decide +kernel), List.mem_of_getElem? (i := 718) (by decide +kernel), List.mem_of_getElem? (i := 719) (by decide +kernel)⟩
def lw_privs_2 : List (MethodName × Nat) := [(⟨"AtticSweep", "freeIfWhite", "(I)V"⟩, 13), (⟨"AtticSweep", "endRound", "()V"⟩, 13), (⟨"AtticSweep", "sweepStep", "()V"⟩, 13), (⟨"AtticSweep", "isReached", "(I)Z"⟩, 13), (⟨"AtticSweep$Reach", "forget", "()V"⟩, 3), (⟨"AtticSweep$Reach", "add", "(I)V"⟩, 3), (⟨"AtticSweep$Reach", "addValues", "(LAtticSweep$Pairs;)V"⟩, 3), (⟨"AtticSweep$Reach", "addFields", "(LAtticSweep$Things;I)V"⟩, 3), (⟨"AtticSweep", "countByReach", "(I)I"⟩, 13), (⟨"AtticSweepModel", "empties", "()V"⟩, 30), (⟨"AtticSweepModel", "shadeHeld", "()V"⟩, 30), (⟨"AtticSweepModel", "shade", "(I)V"⟩, 30), (⟨"AtticSweepModel", "step", "()V"⟩, 30), (⟨"AtticSweepModel", "marks", "()V"⟩, 30), (⟨"AtticSweepModel", "leastGray", "()I"⟩, 30), (⟨"AtticSweepModel", "findsMore", "()Z"⟩, 30)]
theorem lw_r2 : ∀ q ∈ lw_privs_2, lw_okq q := List.forall_mem_cons.mpr ⟨lw_p16, List.forall_mem_cons.mpr ⟨lw_p17, List.forall_mem_cons.mpr ⟨lw_p18, List.forall_mem_cons.mpr ⟨lw_p19, List.forall_mem_cons.mpr ⟨lw_p20, List.forall_mem_cons.mpr ⟨lw_p21, List.forall_mem_cons.mpr ⟨lw_p22, List.forall_mem_cons.mpr ⟨lw_p23, List.forall_mem_cons.mpr ⟨lw_p24, List.forall_mem_cons.mpr ⟨lw_p25, List.forall_mem_cons.mpr ⟨lw_p26, List.forall_mem_cons.mpr ⟨lw_p27, List.forall_mem_cons.mpr ⟨lw_p28, List.forall_mem_cons.mpr ⟨lw_p29, List.forall_mem_cons.mpr ⟨lw_p30, List.forall_mem_cons.mpr ⟨lw_p31, fun _ h => absurd h List.not_mem_nil⟩⟩⟩⟩⟩⟩⟩⟩⟩⟩⟩⟩⟩⟩⟩⟩
theorem lw_p32 : lw_okq (⟨"AtticSweepModel", "isWhite", "(I)Z"⟩, 30) := ⟨⟨by decide +kernel, by decide +kernel⟩, List.mem_of_getElem? (i := 586) (by decide +kernel), List.mem_of_getElem? (i := 722) (by decide +kernel), List.mem_of_getElem? (i := 723) (by decide +kernel)⟩
theorem lw_p33 : lw_okq (⟨"AtticSweepModel", "wishes", "(I)V"⟩, 30) := ⟨⟨by decide +kernel, by decide +kernel⟩, List.mem_of_getElem? (i := 586) (by decide +kernel), List.mem_of_getElem? (i := 726) (by decide +kernel), List.mem_of_getElem? (i := 727) (by decide +kernel)⟩
theorem lw_p34 : lw_okq (⟨"AtticSweepModel", "frees", "(I)V"⟩, 30) := ⟨⟨by decide +kernel, by decide +kernel⟩, List.mem_of_getElem? (i := 586) (by decide +kernel), List.mem_of_getElem? (i := 730) (by decide +kernel), List.mem_of_getElem? (i := 731) (by decide +kernel)⟩
theorem lw_p35 : lw_okq (⟨"AtticSweepModel", "over", "()V"⟩, 30) := ⟨⟨by decide +kernel, by decide +kernel⟩, List.mem_of_getElem? (i := 586) (by decide +kernel), List.mem_of_getElem? (i := 734) (by decide +kernel), List.mem_of_getElem? (i := 735) (by decide +kernel)⟩
theorem lw_p36 : lw_okq (⟨"AtticSweepModel", "sweeps", "()V"⟩, 30) := ⟨⟨by decide +kernel, by decide +kernel⟩, List.mem_of_getElem? (i := 586) (by decide +kernel), List.mem_of_getElem? (i := 738) (by decide +kernel), List.mem_of_getElem? (i := 739) (by decide +kernel)⟩
theorem lw_p37 : lw_okq (⟨"AtticSweepModel", "newPlace", "(I)I"⟩, 30) := ⟨⟨by decide +kernel, by decide +kernel⟩, List.mem_of_getElem? (i := 586) (by decide +kernel), List.mem_of_getElem? (i := 757) (by decide +kernel), List.mem_of_getElem? (i := 758) (by decide +kernel)⟩
theorem lw_p38 : lw_okq (⟨"AtticSweepModel", "whiteCells", "()I"⟩, 30) := ⟨⟨by decide +kernel, by decide +kernel⟩, List.mem_of_getElem? (i := 586) (by decide +kernel), List.mem_of_getElem? (i := 761) (by decide +kernel), List.mem_of_getElem? (i := 762) (by decide +kernel)⟩
theorem lw_p39 : lw_okq (⟨"AtticSweepModel", "newColour", "()I"⟩, 30) := ⟨⟨by decide +kernel, by decide +kernel⟩, List.mem_of_getElem? (i := 586) (by decide +kernel), List.mem_of_getElem? (i := 765) (by decide +kernel), List.mem_of_getElem? (i := 766) (by decide +kernel)⟩
theorem lw_p40 : lw_okq (⟨"AtticSweepModel", "isFree", "(II)Z"⟩, 30) := ⟨⟨by decide +kernel, by decide +kernel⟩, List.mem_of_getElem? (i := 586) (by decide +kernel), List.mem_of_getElem? (i := 769) (by decide +kernel), List.mem_of_getElem? (i := 770) (by decide +kernel)⟩
theorem lw_p41 : lw_okq (⟨"AtticSweepModel", "holds", "(III)I"⟩, 30) := ⟨⟨by decide +kernel, by decide +kernel⟩, List.mem_of_getElem? (i := 586) (by decide +kernel), List.mem_of_getElem? (i := 773) (by decide +kernel), List.mem_of_getElem? (i := 774) (by decide +kernel)⟩
theorem lw_p42 : lw_okq (⟨"AtticSweepModel", "held", "(II)I"⟩, 30) := ⟨⟨by decide +kernel, by decide +kernel⟩, List.mem_of_getElem? (i := 586) (by decide +kernel), List.mem_of_getElem? (i := 781) (by decide +kernel), List.mem_of_getElem? (i := 782) (by decide +kernel)⟩
theorem lw_p43 : lw_okq (⟨"AtticSweepModel", "against", "(III)I"⟩, 30) := ⟨⟨by decide +kernel, by decide +kernel⟩, List.mem_of_getElem? (i := 586) (by decide +kernel), List.mem_of_getElem? (i := 789) (by decide +kernel), List.mem_of_getElem? (i := 790) (by decide +kernel)⟩
theorem lw_p44 : lw_okq (⟨"AtticSweepModel", "notes", "()Z"⟩, 30) := ⟨⟨by decide +kernel, by decide +kernel⟩, List.mem_of_getElem? (i := 586) (by decide +kernel), List.mem_of_getElem? (i := 793) (by decide +kernel), List.mem_of_getElem? (i := 794) (by decide +kernel)⟩
theorem lw_p45 : lw_okq (⟨"AtticSweepModel", "notesRead", "(I)V"⟩, 30) := ⟨⟨by decide +kernel, by decide +kernel⟩, List.mem_of_getElem? (i := 586) (by decide +kernel), List.mem_of_getElem? (i := 825) (by decide +kernel), List.mem_of_getElem? (i := 826) (by decide +kernel)⟩
theorem lw_p46 : lw_okq (⟨"AtticSweepModel", "isThing", "(I)Z"⟩, 30) := ⟨⟨by decide +kernel, by decide +kernel⟩, List.mem_of_getElem? (i := 586) (by decide +kernel), List.mem_of_getElem? (i := 845) (by decide +kernel), List.mem_of_getElem? (i := 846) (by decide +kernel)⟩
theorem lw_p47 : lw_okq (⟨"AtticSweepModel", "aboutOf", "(II)I"⟩, 30) := ⟨⟨by decide +kernel, by decide +kernel⟩, List.mem_of_getElem? (i := 586) (by decide +kernel), List.mem_of_getElem? (i := 849) (by decide +kernel), List.mem_of_getElem? (i := 850) (by decide +kernel)⟩
def lw_privs_3 : List (MethodName × Nat) := [(⟨"AtticSweepModel", "isWhite", "(I)Z"⟩, 30), (⟨"AtticSweepModel", "wishes", "(I)V"⟩, 30), (⟨"AtticSweepModel", "frees", "(I)V"⟩, 30), (⟨"AtticSweepModel", "over", "()V"⟩, 30), (⟨"AtticSweepModel", "sweeps", "()V"⟩, 30), (⟨"AtticSweepModel", "newPlace", "(I)I"⟩, 30), (⟨"AtticSweepModel", "whiteCells", "()I"⟩, 30), (⟨"AtticSweepModel", "newColour", "()I"⟩, 30), (⟨"AtticSweepModel", "isFree", "(II)Z"⟩, 30), (⟨"AtticSweepModel", "holds", "(III)I"⟩, 30), (⟨"AtticSweepModel", "held", "(II)I"⟩, 30), (⟨"AtticSweepModel", "against", "(III)I"⟩, 30), (⟨"AtticSweepModel", "notes", "()Z"⟩, 30), (⟨"AtticSweepModel", "notesRead", "(I)V"⟩, 30), (⟨"AtticSweepModel", "isThing", "(I)Z"⟩, 30), (⟨"AtticSweepModel", "aboutOf", "(II)I"⟩, 30)]
theorem lw_r3 : ∀ q ∈ lw_privs_3, lw_okq q := List.forall_mem_cons.mpr ⟨lw_p32, List.forall_mem_cons.mpr ⟨lw_p33, List.forall_mem_cons.mpr ⟨lw_p34, List.forall_mem_cons.mpr ⟨lw_p35, List.forall_mem_cons.mpr ⟨lw_p36, List.forall_mem_cons.mpr ⟨lw_p37, List.forall_mem_cons.mpr ⟨lw_p38, List.forall_mem_cons.mpr ⟨lw_p39, List.forall_mem_cons.mpr ⟨lw_p40, List.forall_mem_cons.mpr ⟨lw_p41, List.forall_mem_cons.mpr ⟨lw_p42, List.forall_mem_cons.mpr ⟨lw_p43, List.forall_mem_cons.mpr ⟨lw_p44, List.forall_mem_cons.mpr ⟨lw_p45, List.forall_mem_cons.mpr ⟨lw_p46, List.forall_mem_cons.mpr ⟨lw_p47, fun _ h => absurd h List.not_mem_nil⟩⟩⟩⟩⟩⟩⟩⟩⟩⟩⟩⟩⟩⟩⟩⟩
theorem lw_p48 : lw_okq (⟨"AtticSweepModel", "findReached", "()V"⟩, 30) := ⟨⟨by decide +kernel, by decide +kernel⟩, List.mem_of_getElem? (i := 586) (by decide +kernel), List.mem_of_getElem? (i := 853) (by decide +kernel), List.mem_of_getElem? (i := 854) (by decide +kernel)⟩
theorem lw_p49 : lw_okq (⟨"AtticSweepModel", "reach", "(I)V"⟩, 30) := ⟨⟨by decide +kernel, by decide +kernel⟩, List.mem_of_getElem? (i := 586) (by decide +kernel), List.mem_of_getElem? (i := 857) (by decide +kernel), List.mem_of_getElem? (i := 858) (by decide +kernel)⟩
theorem lw_p50 : lw_okq (⟨"AtticSweepModel", "cellOf", "(I)I"⟩, 30) := ⟨⟨by decide +kernel, by decide +kernel⟩, List.mem_of_getElem? (i := 586) (by decide +kernel), List.mem_of_getElem? (i := 873) (by decide +kernel), List.mem_of_getElem? (i := 874) (by decide +kernel)⟩
theorem lw_p51 : lw_okq (⟨"AtticSweepModel", "countThings", "(I)I"⟩, 30) := ⟨⟨by decide +kernel, by decide +kernel⟩, List.mem_of_getElem? (i := 586) (by decide +kernel), List.mem_of_getElem? (i := 881) (by decide +kernel), List.mem_of_getElem? (i := 882) (by decide +kernel)⟩
theorem lw_p52 : lw_okq (⟨"AtticSweepModel", "freeCells", "(Z)I"⟩, 30) := ⟨⟨by decide +kernel, by decide +kernel⟩, List.mem_of_getElem? (i := 586) (by decide +kernel), List.mem_of_getElem? (i := 885) (by decide +kernel), List.mem_of_getElem? (i := 886) (by decide +kernel)⟩
def lw_privs_4 : List (MethodName × Nat) := [(⟨"AtticSweepModel", "findReached", "()V"⟩, 30), (⟨"AtticSweepModel", "reach", "(I)V"⟩, 30), (⟨"AtticSweepModel", "cellOf", "(I)I"⟩, 30), (⟨"AtticSweepModel", "countThings", "(I)I"⟩, 30), (⟨"AtticSweepModel", "freeCells", "(Z)I"⟩, 30)]
theorem lw_r4 : ∀ q ∈ lw_privs_4, lw_okq q := List.forall_mem_cons.mpr ⟨lw_p48, List.forall_mem_cons.mpr ⟨lw_p49, List.forall_mem_cons.mpr ⟨lw_p50, List.forall_mem_cons.mpr ⟨lw_p51, List.forall_mem_cons.mpr ⟨lw_p52, fun _ h => absurd h List.not_mem_nil⟩⟩⟩⟩⟩
def lw_privs : List (MethodName × Nat) := lw_privs_1 ++ (lw_privs_2 ++ (lw_privs_3 ++ (lw_privs_4)))
def lw_tbl : List Cond := k2_sels lw_privs ++ tables_1
theorem lw_privs_ok : ∀ q ∈ lw_privs, lw_okq q := by
  show ∀ q ∈ lw_privs_1 ++ (lw_privs_2 ++ (lw_privs_3 ++ (lw_privs_4))), lw_okq q
  exact List.forall_mem_append.mpr ⟨lw_r1, List.forall_mem_append.mpr ⟨lw_r2, List.forall_mem_append.mpr ⟨lw_r3, lw_r4⟩⟩⟩

def RX0 : String := "AtticSweep$Cells"
def TX0 : u_T := fun k => match k with
  | 0 => ("AtticSweep$Cells", "things", "[I", true)
  | 1 => ("AtticSweep$Cells", "halfEnd", "I", false)
  | _ => ("AtticSweep$Cells", "behind", "I", false)
def tyX0 : Nat → FieldType := fun k => match k with
  | 0 => .array .int
  | 1 => .int
  | _ => .int
abbrev wsX00 : List Cond := u_ws RX0 TX0 3
theorem nmX0 : ∀ a, a < 3 → ∀ b, b < 3 → a ≠ b → (TX0 a).2.1 ≠ (TX0 b).2.1 := by decide +kernel
theorem tyX0_ok : ∀ k, k < 3 → parseFieldDescriptor (TX0 k).2.2.1 = some (tyX0 k) := by decide +kernel
abbrev cX0_init : ByteArray := prog_2_method_1_code
def yX0_init : MethodName := ⟨RX0, "<init>", "()V"⟩
abbrev cX0_empty : ByteArray := prog_2_method_2_code
def yX0_empty : MethodName := ⟨RX0, "empty", "()V"⟩
abbrev cX0_changeHalves : ByteArray := prog_2_method_3_code
def yX0_changeHalves : MethodName := ⟨RX0, "changeHalves", "()V"⟩
abbrev cX0_leftBehind : ByteArray := prog_2_method_4_code
def yX0_leftBehind : MethodName := ⟨RX0, "leftBehind", "()I"⟩
abbrev cX0_thingAt : ByteArray := prog_2_method_5_code
def yX0_thingAt : MethodName := ⟨RX0, "thingAt", "(I)I"⟩
abbrev cX0_assign : ByteArray := prog_2_method_6_code
def yX0_assign : MethodName := ⟨RX0, "assign", "(III)V"⟩
abbrev cX0_takeBehind : ByteArray := prog_2_method_7_code
def yX0_takeBehind : MethodName := ⟨RX0, "takeBehind", "(II)V"⟩
abbrev cX0_leastPlace : ByteArray := prog_2_method_8_code
def yX0_leastPlace : MethodName := ⟨RX0, "leastPlace", "(I)I"⟩
abbrev cX0_countFree : ByteArray := prog_2_method_9_code
def yX0_countFree : MethodName := ⟨RX0, "countFree", "()I"⟩
abbrev cX0_longestFree : ByteArray := prog_2_method_10_code
def yX0_longestFree : MethodName := ⟨RX0, "longestFree", "()I"⟩
def RX1 : String := "AtticSweep$Holders"
def TX1 : u_T := fun k => match k with
  | 0 => ("AtticSweep$Holders", "held", "[I", true)
  | 1 => ("AtticSweep$Holders", "named", "[I", true)
  | _ => ("AtticSweep$Holders", "wishes", "I", false)
def tyX1 : Nat → FieldType := fun k => match k with
  | 0 => .array .int
  | 1 => .array .int
  | _ => .int
abbrev wsX10 : List Cond := u_ws RX1 TX1 3
theorem nmX1 : ∀ a, a < 3 → ∀ b, b < 3 → a ≠ b → (TX1 a).2.1 ≠ (TX1 b).2.1 := by decide +kernel
theorem tyX1_ok : ∀ k, k < 3 → parseFieldDescriptor (TX1 k).2.2.1 = some (tyX1 k) := by decide +kernel
abbrev cX1_init : ByteArray := prog_3_method_1_code
def yX1_init : MethodName := ⟨RX1, "<init>", "()V"⟩
abbrev cX1_empty : ByteArray := prog_3_method_2_code
def yX1_empty : MethodName := ⟨RX1, "empty", "()V"⟩
abbrev cX1_heldAt : ByteArray := prog_3_method_3_code
def yX1_heldAt : MethodName := ⟨RX1, "heldAt", "(I)I"⟩
abbrev cX1_hold : ByteArray := prog_3_method_4_code
def yX1_hold : MethodName := ⟨RX1, "hold", "(II)I"⟩
abbrev cX1_namedBy : ByteArray := prog_3_method_5_code
def yX1_namedBy : MethodName := ⟨RX1, "namedBy", "(I)I"⟩
abbrev cX1_name : ByteArray := prog_3_method_6_code
def yX1_name : MethodName := ⟨RX1, "name", "(II)V"⟩
abbrev cX1_wishAt : ByteArray := prog_3_method_7_code
def yX1_wishAt : MethodName := ⟨RX1, "wishAt", "(I)I"⟩
abbrev cX1_addWish : ByteArray := prog_3_method_8_code
def yX1_addWish : MethodName := ⟨RX1, "addWish", "(I)V"⟩
abbrev cX1_takeFirstWish : ByteArray := prog_3_method_9_code
def yX1_takeFirstWish : MethodName := ⟨RX1, "takeFirstWish", "()I"⟩
def RX2 : String := "AtticSweep$Pairs"
def TX2 : u_T := fun k => match k with
  | 0 => ("AtticSweep$Pairs", "made", "I", false)
  | 1 => ("AtticSweep$Pairs", "keys", "[I", true)
  | _ => ("AtticSweep$Pairs", "values", "[I", true)
def tyX2 : Nat → FieldType := fun k => match k with
  | 0 => .int
  | 1 => .array .int
  | _ => .array .int
abbrev wsX20 : List Cond := u_ws RX2 TX2 3
theorem nmX2 : ∀ a, a < 3 → ∀ b, b < 3 → a ≠ b → (TX2 a).2.1 ≠ (TX2 b).2.1 := by decide +kernel
theorem tyX2_ok : ∀ k, k < 3 → parseFieldDescriptor (TX2 k).2.2.1 = some (tyX2 k) := by decide +kernel
abbrev cX2_init : ByteArray := prog_4_method_1_code
def yX2_init : MethodName := ⟨RX2, "<init>", "()V"⟩
abbrev cX2_isPair : ByteArray := prog_4_method_2_code
def yX2_isPair : MethodName := ⟨RX2, "isPair", "(I)Z"⟩
abbrev cX2_add : ByteArray := prog_4_method_3_code
def yX2_add : MethodName := ⟨RX2, "add", "(II)I"⟩
abbrev cX2_end : ByteArray := prog_4_method_4_code
def yX2_end : MethodName := ⟨RX2, "end", "(I)V"⟩
abbrev cX2_keyOf : ByteArray := prog_4_method_5_code
def yX2_keyOf : MethodName := ⟨RX2, "keyOf", "(I)I"⟩
abbrev cX2_valueOf : ByteArray := prog_4_method_6_code
def yX2_valueOf : MethodName := ⟨RX2, "valueOf", "(I)I"⟩
abbrev cX2_countNotDropped : ByteArray := prog_4_method_7_code
def yX2_countNotDropped : MethodName := ⟨RX2, "countNotDropped", "()I"⟩
def RX3 : String := "AtticSweep$Reach"
def TX3 : u_T := fun k => match k with
  | 0 => ("AtticSweep$Reach", "found", "[Z", true)
  | 1 => ("AtticSweep$Reach", "order", "[I", true)
  | _ => ("AtticSweep$Reach", "count", "I", false)
def tyX3 : Nat → FieldType := fun k => match k with
  | 0 => .array .boolean
  | 1 => .array .int
  | _ => .int
abbrev wsX30 : List Cond := u_ws RX3 TX3 3
theorem nmX3 : ∀ a, a < 3 → ∀ b, b < 3 → a ≠ b → (TX3 a).2.1 ≠ (TX3 b).2.1 := by decide +kernel
theorem tyX3_ok : ∀ k, k < 3 → parseFieldDescriptor (TX3 k).2.2.1 = some (tyX3 k) := by decide +kernel
abbrev cX3_init : ByteArray := prog_5_method_1_code
def yX3_init : MethodName := ⟨RX3, "<init>", "()V"⟩
abbrev cX3_has : ByteArray := prog_5_method_2_code
def yX3_has : MethodName := ⟨RX3, "has", "(I)Z"⟩
abbrev cX3_find : ByteArray := prog_5_method_3_code
def yX3_find : MethodName := ⟨RX3, "find", "(LAtticSweep$Things;LAtticSweep$Holders;LAtticSweep$Pairs;)V"⟩
abbrev cX3_forget : ByteArray := prog_5_method_4_code
def yX3_forget : MethodName := ⟨RX3, "forget", "()V"⟩
abbrev cX3_add : ByteArray := prog_5_method_5_code
def yX3_add : MethodName := ⟨RX3, "add", "(I)V"⟩
abbrev cX3_addFields : ByteArray := prog_5_method_6_code
def yX3_addFields : MethodName := ⟨RX3, "addFields", "(LAtticSweep$Things;I)V"⟩
abbrev cX3_addValues : ByteArray := prog_5_method_7_code
def yX3_addValues : MethodName := ⟨RX3, "addValues", "(LAtticSweep$Pairs;)V"⟩
def RX4 : String := "AtticSweep$Things"
def TX4 : u_T := fun k => match k with
  | 0 => ("AtticSweep$Things", "made", "I", false)
  | 1 => ("AtticSweep$Things", "sizes", "[I", true)
  | 2 => ("AtticSweep$Things", "places", "[I", true)
  | 3 => ("AtticSweep$Things", "colours", "[I", true)
  | 4 => ("AtticSweep$Things", "moves", "[I", true)
  | 5 => ("AtticSweep$Things", "freed", "[Z", true)
  | 6 => ("AtticSweep$Things", "wishing", "[Z", true)
  | _ => ("AtticSweep$Things", "held", "[I", true)
def tyX4 : Nat → FieldType := fun k => match k with
  | 0 => .int
  | 1 => .array .int
  | 2 => .array .int
  | 3 => .array .int
  | 4 => .array .int
  | 5 => .array .boolean
  | 6 => .array .boolean
  | _ => .array .int
abbrev wsX40 : List Cond := u_ws RX4 TX4 8
theorem nmX4 : ∀ a, a < 8 → ∀ b, b < 8 → a ≠ b → (TX4 a).2.1 ≠ (TX4 b).2.1 := by decide +kernel
theorem tyX4_ok : ∀ k, k < 8 → parseFieldDescriptor (TX4 k).2.2.1 = some (tyX4 k) := by decide +kernel
abbrev cX4_init : ByteArray := prog_6_method_1_code
def yX4_init : MethodName := ⟨RX4, "<init>", "()V"⟩
abbrev cX4_add : ByteArray := prog_6_method_2_code
def yX4_add : MethodName := ⟨RX4, "add", "(IZII)I"⟩
abbrev cX4_isThing : ByteArray := prog_6_method_3_code
def yX4_isThing : MethodName := ⟨RX4, "isThing", "(I)Z"⟩
abbrev cX4_sizeOf : ByteArray := prog_6_method_4_code
def yX4_sizeOf : MethodName := ⟨RX4, "sizeOf", "(I)I"⟩
abbrev cX4_fieldsOf : ByteArray := prog_6_method_5_code
def yX4_fieldsOf : MethodName := ⟨RX4, "fieldsOf", "(I)I"⟩
abbrev cX4_placeOf : ByteArray := prog_6_method_6_code
def yX4_placeOf : MethodName := ⟨RX4, "placeOf", "(I)I"⟩
abbrev cX4_colourOf : ByteArray := prog_6_method_7_code
def yX4_colourOf : MethodName := ⟨RX4, "colourOf", "(I)I"⟩
abbrev cX4_movesOf : ByteArray := prog_6_method_8_code
def yX4_movesOf : MethodName := ⟨RX4, "movesOf", "(I)I"⟩
abbrev cX4_isWhite : ByteArray := prog_6_method_9_code
def yX4_isWhite : MethodName := ⟨RX4, "isWhite", "(I)Z"⟩
abbrev cX4_isFreed : ByteArray := prog_6_method_10_code
def yX4_isFreed : MethodName := ⟨RX4, "isFreed", "(I)Z"⟩
abbrev cX4_hasWish : ByteArray := prog_6_method_11_code
def yX4_hasWish : MethodName := ⟨RX4, "hasWish", "(I)Z"⟩
abbrev cX4_hasField : ByteArray := prog_6_method_12_code
def yX4_hasField : MethodName := ⟨RX4, "hasField", "(II)Z"⟩
abbrev cX4_inField : ByteArray := prog_6_method_13_code
def yX4_inField : MethodName := ⟨RX4, "inField", "(II)I"⟩
abbrev cX4_setField : ByteArray := prog_6_method_14_code
def yX4_setField : MethodName := ⟨RX4, "setField", "(III)V"⟩
abbrev cX4_paint : ByteArray := prog_6_method_15_code
def yX4_paint : MethodName := ⟨RX4, "paint", "(II)V"⟩
abbrev cX4_moveTo : ByteArray := prog_6_method_16_code
def yX4_moveTo : MethodName := ⟨RX4, "moveTo", "(II)V"⟩
abbrev cX4_free : ByteArray := prog_6_method_17_code
def yX4_free : MethodName := ⟨RX4, "free", "(I)V"⟩
abbrev cX4_endWish : ByteArray := prog_6_method_18_code
def yX4_endWish : MethodName := ⟨RX4, "endWish", "(I)V"⟩
abbrev cX4_whitenAll : ByteArray := prog_6_method_19_code
def yX4_whitenAll : MethodName := ⟨RX4, "whitenAll", "()V"⟩
abbrev cX4_leastGray : ByteArray := prog_6_method_20_code
def yX4_leastGray : MethodName := ⟨RX4, "leastGray", "()I"⟩
abbrev cX4_nextNotFreed : ByteArray := prog_6_method_21_code
def yX4_nextNotFreed : MethodName := ⟨RX4, "nextNotFreed", "(I)I"⟩
abbrev cX4_countGray : ByteArray := prog_6_method_22_code
def yX4_countGray : MethodName := ⟨RX4, "countGray", "()I"⟩
abbrev cX4_countNotFreed : ByteArray := prog_6_method_23_code
def yX4_countNotFreed : MethodName := ⟨RX4, "countNotFreed", "()I"⟩
abbrev cX4_cellsOfWhite : ByteArray := prog_6_method_24_code
def yX4_cellsOfWhite : MethodName := ⟨RX4, "cellsOfWhite", "()I"⟩
def RX5 : String := "AtticSweep"
def TX5 : u_T := fun k => match k with
  | 0 => ("AtticSweep", "things", "LAtticSweep$Things;", true)
  | 1 => ("AtticSweep", "cells", "LAtticSweep$Cells;", true)
  | 2 => ("AtticSweep", "holders", "LAtticSweep$Holders;", true)
  | 3 => ("AtticSweep", "pairs", "LAtticSweep$Pairs;", true)
  | 4 => ("AtticSweep", "reach", "LAtticSweep$Reach;", true)
  | 5 => ("AtticSweep", "manner", "I", false)
  | 6 => ("AtticSweep", "fault", "I", false)
  | 7 => ("AtticSweep", "underWay", "I", false)
  | 8 => ("AtticSweep", "nextToSweep", "I", false)
  | 9 => ("AtticSweep", "rounds", "I", false)
  | 10 => ("AtticSweep", "steps", "I", false)
  | 11 => ("AtticSweep", "shaded", "I", false)
  | _ => ("AtticSweep", "moved", "I", false)
def tyX5 : Nat → FieldType := fun k => match k with
  | 0 => .object "AtticSweep$Things"
  | 1 => .object "AtticSweep$Cells"
  | 2 => .object "AtticSweep$Holders"
  | 3 => .object "AtticSweep$Pairs"
  | 4 => .object "AtticSweep$Reach"
  | 5 => .int
  | 6 => .int
  | 7 => .int
  | 8 => .int
  | 9 => .int
  | 10 => .int
  | 11 => .int
  | _ => .int
abbrev wsX50 : List Cond := u_ws RX5 TX5 13
theorem nmX5 : ∀ a, a < 13 → ∀ b, b < 13 → a ≠ b → (TX5 a).2.1 ≠ (TX5 b).2.1 := by decide +kernel
theorem tyX5_ok : ∀ k, k < 13 → parseFieldDescriptor (TX5 k).2.2.1 = some (tyX5 k) := by decide +kernel
abbrev cX5_init : ByteArray := prog_1_method_1_code
def yX5_init : MethodName := ⟨RX5, "<init>", "()V"⟩
abbrev cX5_attic : ByteArray := prog_1_method_2_code
def yX5_attic : MethodName := ⟨RX5, "attic", "(II)I"⟩
abbrev cX5_empty : ByteArray := prog_1_method_3_code
def yX5_empty : MethodName := ⟨RX5, "empty", "(II)V"⟩
abbrev cX5_make : ByteArray := prog_1_method_4_code
def yX5_make : MethodName := ⟨RX5, "make", "(IIIZ)I"⟩
abbrev cX5_colourOfNew : ByteArray := prog_1_method_5_code
def yX5_colourOfNew : MethodName := ⟨RX5, "colourOfNew", "()I"⟩
abbrev cX5_placeOfNew : ByteArray := prog_1_method_6_code
def yX5_placeOfNew : MethodName := ⟨RX5, "placeOfNew", "(II)I"⟩
abbrev cX5_move : ByteArray := prog_1_method_7_code
def yX5_move : MethodName := ⟨RX5, "move", "(III)I"⟩
abbrev cX5_get : ByteArray := prog_1_method_8_code
def yX5_get : MethodName := ⟨RX5, "get", "(IIII)I"⟩
abbrev cX5_put : ByteArray := prog_1_method_9_code
def yX5_put : MethodName := ⟨RX5, "put", "(IIII)I"⟩
abbrev cX5_refusalOfField : ByteArray := prog_1_method_10_code
def yX5_refusalOfField : MethodName := ⟨RX5, "refusalOfField", "(II)I"⟩
abbrev cX5_drop : ByteArray := prog_1_method_11_code
def yX5_drop : MethodName := ⟨RX5, "drop", "(II)I"⟩
abbrev cX5_store : ByteArray := prog_1_method_12_code
def yX5_store : MethodName := ⟨RX5, "store", "(III)I"⟩
abbrev cX5_load : ByteArray := prog_1_method_13_code
def yX5_load : MethodName := ⟨RX5, "load", "(III)I"⟩
abbrev cX5_same : ByteArray := prog_1_method_14_code
def yX5_same : MethodName := ⟨RX5, "same", "(IIII)I"⟩
abbrev cX5_weak : ByteArray := prog_1_method_15_code
def yX5_weak : MethodName := ⟨RX5, "weak", "(III)I"⟩
abbrev cX5_strong : ByteArray := prog_1_method_16_code
def yX5_strong : MethodName := ⟨RX5, "strong", "(III)I"⟩
abbrev cX5_pair : ByteArray := prog_1_method_17_code
def yX5_pair : MethodName := ⟨RX5, "pair", "(III)I"⟩
abbrev cX5_value : ByteArray := prog_1_method_18_code
def yX5_value : MethodName := ⟨RX5, "value", "(III)I"⟩
abbrev cX5_wish : ByteArray := prog_1_method_19_code
def yX5_wish : MethodName := ⟨RX5, "wish", "(II)I"⟩
abbrev cX5_isRegister : ByteArray := prog_1_method_20_code
def yX5_isRegister : MethodName := ⟨RX5, "isRegister", "(II)Z"⟩
abbrev cX5_isSlot : ByteArray := prog_1_method_21_code
def yX5_isSlot : MethodName := ⟨RX5, "isSlot", "(I)Z"⟩
abbrev cX5_isWeakHolder : ByteArray := prog_1_method_22_code
def yX5_isWeakHolder : MethodName := ⟨RX5, "isWeakHolder", "(I)Z"⟩
abbrev cX5_registerAt : ByteArray := prog_1_method_23_code
def yX5_registerAt : MethodName := ⟨RX5, "registerAt", "(II)I"⟩
abbrev cX5_inRegister : ByteArray := prog_1_method_24_code
def yX5_inRegister : MethodName := ⟨RX5, "inRegister", "(II)I"⟩
abbrev cX5_noteWeakRead : ByteArray := prog_1_method_25_code
def yX5_noteWeakRead : MethodName := ⟨RX5, "noteWeakRead", "(I)V"⟩
abbrev cX5_note : ByteArray := prog_1_method_26_code
def yX5_note : MethodName := ⟨RX5, "note", "(I)V"⟩
abbrev cX5_begin : ByteArray := prog_1_method_27_code
def yX5_begin : MethodName := ⟨RX5, "begin", "()I"⟩
abbrev cX5_sweep : ByteArray := prog_1_method_28_code
def yX5_sweep : MethodName := ⟨RX5, "sweep", "(I)I"⟩
abbrev cX5_under : ByteArray := prog_1_method_29_code
def yX5_under : MethodName := ⟨RX5, "under", "()I"⟩
abbrev cX5_startRound : ByteArray := prog_1_method_30_code
def yX5_startRound : MethodName := ⟨RX5, "startRound", "()V"⟩
abbrev cX5_takeSteps : ByteArray := prog_1_method_31_code
def yX5_takeSteps : MethodName := ⟨RX5, "takeSteps", "(I)I"⟩
abbrev cX5_markStep : ByteArray := prog_1_method_32_code
def yX5_markStep : MethodName := ⟨RX5, "markStep", "()V"⟩
abbrev cX5_shadeFieldsOf : ByteArray := prog_1_method_33_code
def yX5_shadeFieldsOf : MethodName := ⟨RX5, "shadeFieldsOf", "(I)V"⟩
abbrev cX5_shadeHeld : ByteArray := prog_1_method_34_code
def yX5_shadeHeld : MethodName := ⟨RX5, "shadeHeld", "()V"⟩
abbrev cX5_shadeValues : ByteArray := prog_1_method_35_code
def yX5_shadeValues : MethodName := ⟨RX5, "shadeValues", "()V"⟩
abbrev cX5_grantWishes : ByteArray := prog_1_method_36_code
def yX5_grantWishes : MethodName := ⟨RX5, "grantWishes", "()V"⟩
abbrev cX5_shade : ByteArray := prog_1_method_37_code
def yX5_shade : MethodName := ⟨RX5, "shade", "(I)V"⟩
abbrev cX5_endMarking : ByteArray := prog_1_method_38_code
def yX5_endMarking : MethodName := ⟨RX5, "endMarking", "()V"⟩
abbrev cX5_sweepStep : ByteArray := prog_1_method_39_code
def yX5_sweepStep : MethodName := ⟨RX5, "sweepStep", "()V"⟩
abbrev cX5_freeIfWhite : ByteArray := prog_1_method_40_code
def yX5_freeIfWhite : MethodName := ⟨RX5, "freeIfWhite", "(I)V"⟩
abbrev cX5_endRound : ByteArray := prog_1_method_41_code
def yX5_endRound : MethodName := ⟨RX5, "endRound", "()V"⟩
abbrev cX5_about : ByteArray := prog_1_method_42_code
def yX5_about : MethodName := ⟨RX5, "about", "(II)I"⟩
abbrev cX5_field : ByteArray := prog_1_method_43_code
def yX5_field : MethodName := ⟨RX5, "field", "(II)I"⟩
abbrev cX5_holder : ByteArray := prog_1_method_44_code
def yX5_holder : MethodName := ⟨RX5, "holder", "(I)I"⟩
abbrev cX5_cell : ByteArray := prog_1_method_45_code
def yX5_cell : MethodName := ⟨RX5, "cell", "(I)I"⟩
abbrev cX5_count : ByteArray := prog_1_method_46_code
def yX5_count : MethodName := ⟨RX5, "count", "(I)I"⟩
abbrev cX5_countByReach : ByteArray := prog_1_method_47_code
def yX5_countByReach : MethodName := ⟨RX5, "countByReach", "(I)I"⟩
abbrev cX5_lost : ByteArray := prog_1_method_48_code
def yX5_lost : MethodName := ⟨RX5, "lost", "()I"⟩
abbrev cX5_isReached : ByteArray := prog_1_method_49_code
def yX5_isReached : MethodName := ⟨RX5, "isReached", "(I)Z"⟩
abbrev cX5_digest : ByteArray := prog_1_method_50_code
def yX5_digest : MethodName := ⟨RX5, "digest", "()J"⟩
def RX6 : String := "AtticSweepModel"
def TX6 : u_T := fun k => match k with
  | 0 => ("AtticSweepModel", "manner", "I", false)
  | 1 => ("AtticSweepModel", "fault", "I", false)
  | 2 => ("AtticSweepModel", "things", "I", false)
  | 3 => ("AtticSweepModel", "many", "[I", true)
  | 4 => ("AtticSweepModel", "field", "[I", true)
  | 5 => ("AtticSweepModel", "place", "[I", true)
  | 6 => ("AtticSweepModel", "colour", "[I", true)
  | 7 => ("AtticSweepModel", "isFreed", "[Z", true)
  | 8 => ("AtticSweepModel", "hasWish", "[Z", true)
  | 9 => ("AtticSweepModel", "moved", "[I", true)
  | 10 => ("AtticSweepModel", "register", "[I", true)
  | 11 => ("AtticSweepModel", "slot", "[I", true)
  | 12 => ("AtticSweepModel", "wishes", "I", false)
  | 13 => ("AtticSweepModel", "wishAt", "[I", true)
  | 14 => ("AtticSweepModel", "weakAt", "[I", true)
  | 15 => ("AtticSweepModel", "pairs", "I", false)
  | 16 => ("AtticSweepModel", "key", "[I", true)
  | 17 => ("AtticSweepModel", "value", "[I", true)
  | 18 => ("AtticSweepModel", "isPair", "[Z", true)
  | 19 => ("AtticSweepModel", "half", "I", false)
  | 20 => ("AtticSweepModel", "top", "I", false)
  | 21 => ("AtticSweepModel", "way", "I", false)
  | 22 => ("AtticSweepModel", "next", "I", false)
  | 23 => ("AtticSweepModel", "freedMany", "I", false)
  | 24 => ("AtticSweepModel", "rounds", "I", false)
  | 25 => ("AtticSweepModel", "steps", "I", false)
  | 26 => ("AtticSweepModel", "shaded", "I", false)
  | 27 => ("AtticSweepModel", "movedMany", "I", false)
  | 28 => ("AtticSweepModel", "isReached", "[Z", true)
  | _ => ("AtticSweepModel", "more", "Z", false)
def tyX6 : Nat → FieldType := fun k => match k with
  | 0 => .int
  | 1 => .int
  | 2 => .int
  | 3 => .array .int
  | 4 => .array .int
  | 5 => .array .int
  | 6 => .array .int
  | 7 => .array .boolean
  | 8 => .array .boolean
  | 9 => .array .int
  | 10 => .array .int
  | 11 => .array .int
  | 12 => .int
  | 13 => .array .int
  | 14 => .array .int
  | 15 => .int
  | 16 => .array .int
  | 17 => .array .int
  | 18 => .array .boolean
  | 19 => .int
  | 20 => .int
  | 21 => .int
  | 22 => .int
  | 23 => .int
  | 24 => .int
  | 25 => .int
  | 26 => .int
  | 27 => .int
  | 28 => .array .boolean
  | _ => .boolean
abbrev wsX60 : List Cond := u_ws RX6 TX6 30
theorem nmX6 : ∀ a, a < 30 → ∀ b, b < 30 → a ≠ b → (TX6 a).2.1 ≠ (TX6 b).2.1 := by decide +kernel
theorem tyX6_ok : ∀ k, k < 30 → parseFieldDescriptor (TX6 k).2.2.1 = some (tyX6 k) := by decide +kernel
abbrev cX6_in : ByteArray := prog_8_method_2_code
def yX6_in : MethodName := ⟨RX6, "in", "(III)Z"⟩
abbrev cX6_init : ByteArray := prog_8_method_3_code
def yX6_init : MethodName := ⟨RX6, "<init>", "()V"⟩
abbrev cX6_empties : ByteArray := prog_8_method_4_code
def yX6_empties : MethodName := ⟨RX6, "empties", "()V"⟩
abbrev cX6_attic : ByteArray := prog_8_method_5_code
def yX6_attic : MethodName := ⟨RX6, "attic", "(II)I"⟩
abbrev cX6_isRegister : ByteArray := prog_8_method_6_code
def yX6_isRegister : MethodName := ⟨RX6, "isRegister", "(II)Z"⟩
abbrev cX6_held : ByteArray := prog_8_method_7_code
def yX6_held : MethodName := ⟨RX6, "held", "(II)I"⟩
abbrev cX6_holds : ByteArray := prog_8_method_8_code
def yX6_holds : MethodName := ⟨RX6, "holds", "(III)I"⟩
abbrev cX6_shade : ByteArray := prog_8_method_9_code
def yX6_shade : MethodName := ⟨RX6, "shade", "(I)V"⟩
abbrev cX6_shadeHeld : ByteArray := prog_8_method_10_code
def yX6_shadeHeld : MethodName := ⟨RX6, "shadeHeld", "()V"⟩
abbrev cX6_frees : ByteArray := prog_8_method_11_code
def yX6_frees : MethodName := ⟨RX6, "frees", "(I)V"⟩
abbrev cX6_leastGray : ByteArray := prog_8_method_12_code
def yX6_leastGray : MethodName := ⟨RX6, "leastGray", "()I"⟩
abbrev cX6_isWhite : ByteArray := prog_8_method_13_code
def yX6_isWhite : MethodName := ⟨RX6, "isWhite", "(I)Z"⟩
abbrev cX6_wishes : ByteArray := prog_8_method_14_code
def yX6_wishes : MethodName := ⟨RX6, "wishes", "(I)V"⟩
abbrev cX6_findsMore : ByteArray := prog_8_method_15_code
def yX6_findsMore : MethodName := ⟨RX6, "findsMore", "()Z"⟩
abbrev cX6_marks : ByteArray := prog_8_method_16_code
def yX6_marks : MethodName := ⟨RX6, "marks", "()V"⟩
abbrev cX6_over : ByteArray := prog_8_method_17_code
def yX6_over : MethodName := ⟨RX6, "over", "()V"⟩
abbrev cX6_sweeps : ByteArray := prog_8_method_18_code
def yX6_sweeps : MethodName := ⟨RX6, "sweeps", "()V"⟩
abbrev cX6_step : ByteArray := prog_8_method_19_code
def yX6_step : MethodName := ⟨RX6, "step", "()V"⟩
abbrev cX6_begin : ByteArray := prog_8_method_20_code
def yX6_begin : MethodName := ⟨RX6, "begin", "()I"⟩
abbrev cX6_sweep : ByteArray := prog_8_method_21_code
def yX6_sweep : MethodName := ⟨RX6, "sweep", "(I)I"⟩
abbrev cX6_under : ByteArray := prog_8_method_22_code
def yX6_under : MethodName := ⟨RX6, "under", "()I"⟩
abbrev cX6_notes : ByteArray := prog_8_method_23_code
def yX6_notes : MethodName := ⟨RX6, "notes", "()Z"⟩
abbrev cX6_isFree : ByteArray := prog_8_method_24_code
def yX6_isFree : MethodName := ⟨RX6, "isFree", "(II)Z"⟩
abbrev cX6_whiteCells : ByteArray := prog_8_method_25_code
def yX6_whiteCells : MethodName := ⟨RX6, "whiteCells", "()I"⟩
abbrev cX6_newColour : ByteArray := prog_8_method_26_code
def yX6_newColour : MethodName := ⟨RX6, "newColour", "()I"⟩
abbrev cX6_newPlace : ByteArray := prog_8_method_27_code
def yX6_newPlace : MethodName := ⟨RX6, "newPlace", "(I)I"⟩
abbrev cX6_make : ByteArray := prog_8_method_28_code
def yX6_make : MethodName := ⟨RX6, "make", "(IIIZ)I"⟩
abbrev cX6_move : ByteArray := prog_8_method_29_code
def yX6_move : MethodName := ⟨RX6, "move", "(III)I"⟩
abbrev cX6_against : ByteArray := prog_8_method_30_code
def yX6_against : MethodName := ⟨RX6, "against", "(III)I"⟩
abbrev cX6_get : ByteArray := prog_8_method_31_code
def yX6_get : MethodName := ⟨RX6, "get", "(IIII)I"⟩
abbrev cX6_put : ByteArray := prog_8_method_32_code
def yX6_put : MethodName := ⟨RX6, "put", "(IIII)I"⟩
abbrev cX6_drop : ByteArray := prog_8_method_33_code
def yX6_drop : MethodName := ⟨RX6, "drop", "(II)I"⟩
abbrev cX6_store : ByteArray := prog_8_method_34_code
def yX6_store : MethodName := ⟨RX6, "store", "(III)I"⟩
abbrev cX6_load : ByteArray := prog_8_method_35_code
def yX6_load : MethodName := ⟨RX6, "load", "(III)I"⟩
abbrev cX6_same : ByteArray := prog_8_method_36_code
def yX6_same : MethodName := ⟨RX6, "same", "(IIII)I"⟩
abbrev cX6_weak : ByteArray := prog_8_method_37_code
def yX6_weak : MethodName := ⟨RX6, "weak", "(III)I"⟩
abbrev cX6_notesRead : ByteArray := prog_8_method_38_code
def yX6_notesRead : MethodName := ⟨RX6, "notesRead", "(I)V"⟩
abbrev cX6_strong : ByteArray := prog_8_method_39_code
def yX6_strong : MethodName := ⟨RX6, "strong", "(III)I"⟩
abbrev cX6_pair : ByteArray := prog_8_method_40_code
def yX6_pair : MethodName := ⟨RX6, "pair", "(III)I"⟩
abbrev cX6_value : ByteArray := prog_8_method_41_code
def yX6_value : MethodName := ⟨RX6, "value", "(III)I"⟩
abbrev cX6_wish : ByteArray := prog_8_method_42_code
def yX6_wish : MethodName := ⟨RX6, "wish", "(II)I"⟩
abbrev cX6_reach : ByteArray := prog_8_method_43_code
def yX6_reach : MethodName := ⟨RX6, "reach", "(I)V"⟩
abbrev cX6_findReached : ByteArray := prog_8_method_44_code
def yX6_findReached : MethodName := ⟨RX6, "findReached", "()V"⟩
abbrev cX6_isThing : ByteArray := prog_8_method_45_code
def yX6_isThing : MethodName := ⟨RX6, "isThing", "(I)Z"⟩
abbrev cX6_aboutOf : ByteArray := prog_8_method_46_code
def yX6_aboutOf : MethodName := ⟨RX6, "aboutOf", "(II)I"⟩
abbrev cX6_about : ByteArray := prog_8_method_47_code
def yX6_about : MethodName := ⟨RX6, "about", "(II)I"⟩
abbrev cX6_field : ByteArray := prog_8_method_48_code
def yX6_field : MethodName := ⟨RX6, "field", "(II)I"⟩
abbrev cX6_holder : ByteArray := prog_8_method_49_code
def yX6_holder : MethodName := ⟨RX6, "holder", "(I)I"⟩
abbrev cX6_cellOf : ByteArray := prog_8_method_50_code
def yX6_cellOf : MethodName := ⟨RX6, "cellOf", "(I)I"⟩
abbrev cX6_cell : ByteArray := prog_8_method_51_code
def yX6_cell : MethodName := ⟨RX6, "cell", "(I)I"⟩
abbrev cX6_freeCells : ByteArray := prog_8_method_52_code
def yX6_freeCells : MethodName := ⟨RX6, "freeCells", "(Z)I"⟩
abbrev cX6_countThings : ByteArray := prog_8_method_53_code
def yX6_countThings : MethodName := ⟨RX6, "countThings", "(I)I"⟩
abbrev cX6_count : ByteArray := prog_8_method_54_code
def yX6_count : MethodName := ⟨RX6, "count", "(I)I"⟩
abbrev cX6_lost : ByteArray := prog_8_method_55_code
def yX6_lost : MethodName := ⟨RX6, "lost", "()I"⟩
abbrev cX6_digest : ByteArray := prog_8_method_56_code
def yX6_digest : MethodName := ⟨RX6, "digest", "()J"⟩
def RJ9 : String := "java/lang/Math"
def TJ9 : u_T := fun k => match k with
  | _ => ("", "", "", false)
def tyJ9 : Nat → FieldType := fun k => match k with
  | _ => .int
theorem nmJ9 : ∀ a, a < 0 → ∀ b, b < 0 → a ≠ b → (TJ9 a).2.1 ≠ (TJ9 b).2.1 := by decide +kernel
theorem tyJ9_ok : ∀ k, k < 0 → parseFieldDescriptor (TJ9 k).2.2.1 = some (tyJ9 k) := by decide +kernel
abbrev cJ9_max_7cf53 : ByteArray := prog_9_method_65_code
def yJ9_max_7cf53 : MethodName := ⟨RJ9, "max", "(II)I"⟩
def RL : String := "AtticSweepLaw"
abbrev cL_law : ByteArray := code
def yL_law : MethodName := ⟨RL, "law", "([I)Z"⟩
abbrev vwCl : List vw_C := [(RX0, TX0, 3), (RX1, TX1, 3), (RX2, TX2, 3), (RX3, TX3, 3), (RX4, TX4, 8), (RX5, TX5, 13), (RX6, TX6, 30)]
